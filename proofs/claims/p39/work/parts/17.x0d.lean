/-! ===== GrainSilo: the face, where it returns ===== -/
set_option maxHeartbeats 4000000 in
set_option maxRecDepth 100000 in
theorem kX0_fill (l : Launch) (D : va_G) (h : Nat → Nat) (c1 c2 c3 : ClassId) (K Dm : Int → Int) (L : Int) (lo hi su db : Int → Int) (S dy li so sp : Int) (tu ah : Int → Int) (M : Int → Int → Int) (a b : Int) (h0 : 0 ≤ a) (h1 : a ≤ 4) (h2 : 0 ≤ b) (h3 : b ≤ 40) (hL0 : 0 ≤ L) (hL : L < 12) : cI l yX0_fill wsX0_fill ({ frames := 1, cells := 0, slots := 0, locals := 23 }) D (tyS c1 c2 c3) [.ref (h 0), .int (zI a), .int (zI b)] (wG h c1 c2 K Dm L lo hi su db S dy li so sp tu ah M) (wG h c1 c2 (upZ K L a) (upZ Dm L b) (L + 1) lo hi su db S dy li so sp tu ah M) (zI L) 0 0 := by
  refine cI.of (cc := cX0_fill) (maxL := 3) (ret := .int) (by decide) rfl (lv := [(0, .ref (h 0)), (1, .int (zI a)), (2, .int (zI b))]) [0, 1, 2] rfl (Nat.le_of_ble_eq_true rfl) ?_
  intro p e s m args below meth c A C hr
  have C : GC p s m args meth c cX0_fill 3 RX0 wsX0_fill D (tyS c1 c2 c3) A := C
  have hin : ∀ w ∈ wsX00, w ∈ wsX0_fill := fun _ h => List.mem_cons_of_mem _ (List.mem_append_left _ (List.mem_append_left _ (List.mem_append_right _ h)))
  refine j_iload_n (pc := 0) C dX0_fill_0 1 rfl ?_
  refine j_callSI (pc := 1) C (As := [.int (zI a)]) (rest := []) (kX0_isKind l D c1 c2 c3 a ⟨by omega, by omega⟩) (va_cwS 1 C.2.2.2.2.1 gX0_fill_X0_isKind rfl rfl rfl (by decide +kernel) ⟨Nat.le_of_ble_eq_true rfl, Nat.le_of_ble_eq_true rfl⟩) dX0_fill_1 rfl rfl (Nat.le_of_ble_eq_true rfl) (by decide) ?_
  refine j_if_eq (pc := 4) C 14 dX0_fill_4 (by decide) ⟨by omega, by omega⟩ (fun c_4 => absurd c_4 (by omega)) (fun c_4 => ?_)
  refine j_iload_n (pc := 7) C dX0_fill_7 2 rfl ?_
  refine j_callSI (pc := 8) C (As := [.int (zI b)]) (rest := []) (kX0_isDampness l D c1 c2 c3 b ⟨by omega, by omega⟩) (va_cwS 1 C.2.2.2.2.1 gX0_fill_X0_isDampness rfl rfl rfl (by decide +kernel) ⟨Nat.le_of_ble_eq_true rfl, Nat.le_of_ble_eq_true rfl⟩) dX0_fill_8 rfl rfl (Nat.le_of_ble_eq_true rfl) (by decide) ?_
  refine j_if_ne (pc := 11) C 24 dX0_fill_11 (by decide) ⟨by omega, by omega⟩ (fun c_11 => ?_) (fun c_11 => absurd c_11 (by omega))
  refine j_aload_n (pc := 24) C dX0_fill_24 0 rfl ?_
  refine j_get (pc := 25) C (ref := "GrainSilo") (T := TX0) (N := 15) hin 0 rfl rfl 2 (by decide) (C.w 5 rfl) rfl rfl dX0_fill_25 ?_
  refine j_bipush (pc := 28) C dX0_fill_28 (by decide +kernel) ?_
  refine j_icmp_lt (pc := 30) C 43 dX0_fill_30 (by decide) ⟨by omega, by omega⟩ ⟨by omega, by omega⟩ (fun c_30 => ?_) (fun c_30 => absurd c_30 (by omega))
  refine j_aload_n (pc := 43) C dX0_fill_43 0 rfl ?_
  refine j_iload_n (pc := 44) C dX0_fill_44 1 rfl ?_
  refine j_iload_n (pc := 45) C dX0_fill_45 2 rfl ?_
  refine j_callI (pc := 46) C (As := [.int (zI a), .int (zI b)]) (rest := []) (kX0_putOnTop l D h c1 c2 c3 K Dm L lo hi su db S dy li so sp tu ah M a b (by omega) (by omega)) (cwV 2 C.2.2.2.2.1 gX0_fill_X0_putOnTop rfl rfl rfl (by decide +kernel) ⟨Nat.le_of_ble_eq_true rfl, Nat.le_of_ble_eq_true rfl⟩) 0 (ci := 0) rfl rfl rfl dX0_fill_46 rfl rfl (Nat.le_of_ble_eq_true rfl) (by decide) ?_
  exact j_iret (pc := 49) C hr dX0_fill_49 (by rfl) (by rfl) (by decide) (by decide)
set_option maxHeartbeats 4000000 in
set_option maxRecDepth 100000 in
theorem kX0_letOut (l : Launch) (D : va_G) (h : Nat → Nat) (c1 c2 c3 : ClassId) (K Dm : Int → Int) (L : Int) (lo hi su db : Int → Int) (S dy li so sp : Int) (tu ah : Int → Int) (M : Int → Int → Int) (hok : okS Dm L lo hi su db S) (hl1 : 1 ≤ L) (l0 : 0 ≤ li) (l1 : li ≤ 40) : cI l yX0_letOut wsX0_letOut ({ frames := 3, cells := 0, slots := 0, locals := 66 }) D (tyS c1 c2 c3) [.ref (h 0)] (wG h c1 c2 K Dm L lo hi su db S dy li so sp tu ah M) (wG h c1 c2 (shf K L) (shf Dm L) (L - 1) (mix (fun j => (cmp (fun j => decide (0 < mix (fun j => if lo j = 0 ∧ 0 < hi j then 1 else lo j) lo S j)) (mix (fun j => if lo j = 0 ∧ 0 < hi j then 1 else lo j) lo S) S) j - 1) (cmp (fun j => decide (0 < mix (fun j => if lo j = 0 ∧ 0 < hi j then 1 else lo j) lo S j)) (mix (fun j => if lo j = 0 ∧ 0 < hi j then 1 else lo j) lo S) S) (zc (fun j => decide (0 < mix (fun j => if lo j = 0 ∧ 0 < hi j then 1 else lo j) lo S j)) 0 S)) (mix (fun j => (cmp (fun j => decide (0 < mix (fun j => if lo j = 0 ∧ 0 < hi j then 1 else lo j) lo S j)) hi S) j - 1) (cmp (fun j => decide (0 < mix (fun j => if lo j = 0 ∧ 0 < hi j then 1 else lo j) lo S j)) hi S) (zc (fun j => decide (0 < mix (fun j => if lo j = 0 ∧ 0 < hi j then 1 else lo j) lo S j)) 0 S)) (cmp (fun j => decide (0 < mix (fun j => if lo j = 0 ∧ 0 < hi j then 1 else lo j) lo S j)) (mix (fun j => if lo j = 0 ∧ 0 < hi j then su j - (Dm 0) else su j) su S) S) (cmp (fun j => decide (0 < mix (fun j => if lo j = 0 ∧ 0 < hi j then 1 else lo j) lo S j)) db S) (zc (fun j => decide (0 < mix (fun j => if lo j = 0 ∧ 0 < hi j then 1 else lo j) lo S j)) 0 S) dy li (if li < (Dm 0) then so else so + 1) (if li < (Dm 0) then sp + 1 else sp) tu ah M) (zI (Dm 0)) 0 0 := by
  refine cI.of (cc := cX0_letOut) (maxL := 2) (ret := .int) (by decide) rfl (lv := [(0, .ref (h 0))]) [0] rfl (Nat.le_of_ble_eq_true rfl) ?_
  intro p e s m args below meth c A C hr
  have C : GC p s m args meth c cX0_letOut 2 RX0 wsX0_letOut D (tyS c1 c2 c3) A := C
  have hin : ∀ w ∈ wsX00, w ∈ wsX0_letOut := fun _ h => List.mem_cons_of_mem _ (List.mem_append_left _ (List.mem_append_right _ h))
  obtain ⟨⟨hL0, hL⟩, ⟨hS0, hS⟩, hf, hs⟩ := id hok
  have q := hf 0 (by omega) (by omega)
  refine j_aload_n (pc := 0) C dX0_letOut_0 0 rfl ?_
  refine j_get (pc := 1) C (ref := "GrainSilo") (T := TX0) (N := 15) hin 0 rfl rfl 2 (by decide) (C.w 3 rfl) rfl rfl dX0_letOut_1 ?_
  refine j_if_ne (pc := 4) C 17 dX0_letOut_4 (by decide) ⟨by omega, by omega⟩ (fun c_4 => ?_) (fun c_4 => absurd c_4 (by omega))
  refine j_aload_n (pc := 17) C dX0_letOut_17 0 rfl ?_
  refine j_get (pc := 18) C (ref := "GrainSilo") (T := TX0) (N := 15) hin 0 rfl rfl 1 (by decide) (C.w 4 rfl) rfl rfl dX0_letOut_18 ?_
  refine j_iconst (pc := 21) C dX0_letOut_21 ?_
  refine j_iald (pc := 22) C 2 0 rfl rfl (by omega) (by omega) (by decide) dX0_letOut_22 ?_
  refine j_istore_n (pc := 23) C (lv' := [(0, .ref (h 0)), (1, .int (zI (Dm 0)))]) dX0_letOut_23 (by decide) [1, 0] rfl ?_
  refine j_aload_n (pc := 24) C dX0_letOut_24 0 rfl ?_
  refine j_iload_n (pc := 25) C dX0_letOut_25 1 rfl ?_
  refine j_callV (pc := 26) C (As := [.int (zI (Dm 0))]) (rest := []) (kX0_countOut l D h c1 c2 c3 K Dm L lo hi su db S dy li so sp tu ah M (Dm 0) ⟨by omega, by omega⟩ ⟨by omega, by omega⟩) (cwV 1 C.2.2.2.2.1 gX0_letOut_X0_countOut rfl rfl rfl (by decide +kernel) ⟨Nat.le_of_ble_eq_true rfl, Nat.le_of_ble_eq_true rfl⟩) 0 (ci := 0) rfl rfl rfl dX0_letOut_26 rfl rfl (Nat.le_of_ble_eq_true rfl) (by decide) ?_
  refine j_aload_n (pc := 29) C dX0_letOut_29 0 rfl ?_
  refine j_callV (pc := 30) C (As := []) (rest := []) (kX0_lowerLayers l D h c1 c2 c3 K Dm L lo hi su db S dy li (if li < (Dm 0) then so else so + 1) (if li < (Dm 0) then sp + 1 else sp) tu ah M  (by omega) (by omega)) (cwV 0 C.2.2.2.2.1 gX0_letOut_X0_lowerLayers rfl rfl rfl (by decide +kernel) ⟨Nat.le_of_ble_eq_true rfl, Nat.le_of_ble_eq_true rfl⟩) 0 (ci := 0) rfl rfl rfl dX0_letOut_30 rfl rfl (Nat.le_of_ble_eq_true rfl) (by decide) ?_
  refine j_aload_n (pc := 33) C dX0_letOut_33 0 rfl ?_
  refine j_iload_n (pc := 34) C dX0_letOut_34 1 rfl ?_
  refine j_callV (pc := 35) C (As := [.int (zI (Dm 0))]) (rest := []) (kX0_cutLowestOffSamples l D h c1 c2 c3 (shf K L) (shf Dm L) (L - 1) lo hi su db S dy li (if li < (Dm 0) then so else so + 1) (if li < (Dm 0) then sp + 1 else sp) tu ah M (Dm 0) (by omega) (by omega) (fun j j0 j1 => by have := hs j j0 j1; omega)) (cwV 1 C.2.2.2.2.1 gX0_letOut_X0_cutLowestOffSamples rfl rfl rfl (by decide +kernel) ⟨Nat.le_of_ble_eq_true rfl, Nat.le_of_ble_eq_true rfl⟩) 0 (ci := 0) rfl rfl rfl dX0_letOut_35 rfl rfl (Nat.le_of_ble_eq_true rfl) (by decide) ?_
  have z1 : 0 ≤ zc (fun j => decide (0 < mix (fun j => if lo j = 0 ∧ 0 < hi j then 1 else lo j) lo S j)) 0 S ∧ zc (fun j => decide (0 < mix (fun j => if lo j = 0 ∧ 0 < hi j then 1 else lo j) lo S j)) 0 S ≤ S - 0 := zc_le _ 0 S hS0
  refine j_aload_n (pc := 38) C dX0_letOut_38 0 rfl ?_
  refine j_callV (pc := 39) C (As := []) (rest := []) (kX0_lowerSamples l D h c1 c2 c3 (shf K L) (shf Dm L) (L - 1) (cmp (fun j => decide (0 < mix (fun j => if lo j = 0 ∧ 0 < hi j then 1 else lo j) lo S j)) (mix (fun j => if lo j = 0 ∧ 0 < hi j then 1 else lo j) lo S) S) (cmp (fun j => decide (0 < mix (fun j => if lo j = 0 ∧ 0 < hi j then 1 else lo j) lo S j)) hi S) (cmp (fun j => decide (0 < mix (fun j => if lo j = 0 ∧ 0 < hi j then 1 else lo j) lo S j)) (mix (fun j => if lo j = 0 ∧ 0 < hi j then su j - (Dm 0) else su j) su S) S) (cmp (fun j => decide (0 < mix (fun j => if lo j = 0 ∧ 0 < hi j then 1 else lo j) lo S j)) db S) (zc (fun j => decide (0 < mix (fun j => if lo j = 0 ∧ 0 < hi j then 1 else lo j) lo S j)) 0 S) dy li (if li < (Dm 0) then so else so + 1) (if li < (Dm 0) then sp + 1 else sp) tu ah M  (by omega) (by omega)) (cwV 0 C.2.2.2.2.1 gX0_letOut_X0_lowerSamples rfl rfl rfl (by decide +kernel) ⟨Nat.le_of_ble_eq_true rfl, Nat.le_of_ble_eq_true rfl⟩) 0 (ci := 0) rfl rfl rfl dX0_letOut_39 rfl rfl (Nat.le_of_ble_eq_true rfl) (by decide) ?_
  refine j_iload_n (pc := 42) C dX0_letOut_42 1 rfl ?_
  exact j_iret (pc := 43) C hr dX0_letOut_43 (by rfl) (by rfl) (by decide) (by decide)
set_option maxHeartbeats 4000000 in
set_option maxRecDepth 100000 in
theorem kX0_turnOver (l : Launch) (D : va_G) (h : Nat → Nat) (c1 c2 c3 : ClassId) (K Dm : Int → Int) (L : Int) (lo hi su db : Int → Int) (S dy li so sp : Int) (tu ah : Int → Int) (M : Int → Int → Int) (hok : okS Dm L lo hi su db S) (hl1 : 2 ≤ L) : cI l yX0_turnOver wsX0_turnOver ({ frames := 2, cells := 0, slots := 0, locals := 44 }) D (tyS c1 c2 c3) [.ref (h 0)] (wG h c1 c2 K Dm L lo hi su db S dy li so sp tu ah M) (wG h c1 c2 (upZ (shf K L) (L - 1) (K 0)) (upZ (shf Dm L) (L - 1) (Dm 0)) ((L - 1) + 1) (mix (fun j => (cmp (fun j => decide (0 < lo j)) lo S) j - 1) (cmp (fun j => decide (0 < lo j)) lo S) (zc (fun j => decide (0 < lo j)) 0 S)) (mix (fun j => (cmp (fun j => decide (0 < lo j)) hi S) j - 1) (cmp (fun j => decide (0 < lo j)) hi S) (zc (fun j => decide (0 < lo j)) 0 S)) (cmp (fun j => decide (0 < lo j)) su S) (cmp (fun j => decide (0 < lo j)) db S) (zc (fun j => decide (0 < lo j)) 0 S) dy li so sp tu ah M) (zI (S - (zc (fun j => decide (0 < lo j)) 0 S))) 0 0 := by
  refine cI.of (cc := cX0_turnOver) (maxL := 4) (ret := .int) (by decide) rfl (lv := [(0, .ref (h 0))]) [0] rfl (Nat.le_of_ble_eq_true rfl) ?_
  intro p e s m args below meth c A C hr
  have C : GC p s m args meth c cX0_turnOver 4 RX0 wsX0_turnOver D (tyS c1 c2 c3) A := C
  have hin : ∀ w ∈ wsX00, w ∈ wsX0_turnOver := fun _ h => List.mem_cons_of_mem _ (List.mem_append_left _ (List.mem_append_right _ h))
  obtain ⟨⟨hL0, hL⟩, ⟨hS0, hS⟩, hf, hs⟩ := id hok
  refine j_aload_n (pc := 0) C dX0_turnOver_0 0 rfl ?_
  refine j_get (pc := 1) C (ref := "GrainSilo") (T := TX0) (N := 15) hin 0 rfl rfl 2 (by decide) (C.w 3 rfl) rfl rfl dX0_turnOver_1 ?_
  refine j_iconst (pc := 4) C dX0_turnOver_4 ?_
  refine j_icmp_ge (pc := 5) C 18 dX0_turnOver_5 (by decide) ⟨by omega, by omega⟩ ⟨by omega, by omega⟩ (fun c_5 => ?_) (fun c_5 => absurd c_5 (by omega))
  refine j_aload_n (pc := 18) C dX0_turnOver_18 0 rfl ?_
  refine j_get (pc := 19) C (ref := "GrainSilo") (T := TX0) (N := 15) hin 0 rfl rfl 0 (by decide) (C.w 4 rfl) rfl rfl dX0_turnOver_19 ?_
  refine j_iconst (pc := 22) C dX0_turnOver_22 ?_
  refine j_iald (pc := 23) C 1 0 rfl rfl (by omega) (by omega) (by decide) dX0_turnOver_23 ?_
  refine j_istore_n (pc := 24) C (lv' := [(0, .ref (h 0)), (1, .int (zI (K 0)))]) dX0_turnOver_24 (by decide) [1, 0] rfl ?_
  refine j_aload_n (pc := 25) C dX0_turnOver_25 0 rfl ?_
  refine j_get (pc := 26) C (ref := "GrainSilo") (T := TX0) (N := 15) hin 0 rfl rfl 1 (by decide) (C.w 5 rfl) rfl rfl dX0_turnOver_26 ?_
  refine j_iconst (pc := 29) C dX0_turnOver_29 ?_
  refine j_iald (pc := 30) C 2 0 rfl rfl (by omega) (by omega) (by decide) dX0_turnOver_30 ?_
  refine j_istore_n (pc := 31) C (lv' := [(0, .ref (h 0)), (1, .int (zI (K 0))), (2, .int (zI (Dm 0)))]) dX0_turnOver_31 (by decide) [1, 2, 0] rfl ?_
  refine j_aload_n (pc := 32) C dX0_turnOver_32 0 rfl ?_
  refine j_callV (pc := 33) C (As := []) (rest := []) (kX0_lowerLayers l D h c1 c2 c3 K Dm L lo hi su db S dy li so sp tu ah M  (by omega) (by omega)) (cwV 0 C.2.2.2.2.1 gX0_turnOver_X0_lowerLayers rfl rfl rfl (by decide +kernel) ⟨Nat.le_of_ble_eq_true rfl, Nat.le_of_ble_eq_true rfl⟩) 0 (ci := 0) rfl rfl rfl dX0_turnOver_33 rfl rfl (Nat.le_of_ble_eq_true rfl) (by decide) ?_
  refine j_aload_n (pc := 36) C dX0_turnOver_36 0 rfl ?_
  refine j_iload_n (pc := 37) C dX0_turnOver_37 1 rfl ?_
  refine j_iload_n (pc := 38) C dX0_turnOver_38 2 rfl ?_
  refine j_callI (pc := 39) C (As := [.int (zI (K 0)), .int (zI (Dm 0))]) (rest := []) (kX0_putOnTop l D h c1 c2 c3 (shf K L) (shf Dm L) (L - 1) lo hi su db S dy li so sp tu ah M (K 0) (Dm 0) (by omega) (by omega)) (cwV 2 C.2.2.2.2.1 gX0_turnOver_X0_putOnTop rfl rfl rfl (by decide +kernel) ⟨Nat.le_of_ble_eq_true rfl, Nat.le_of_ble_eq_true rfl⟩) 0 (ci := 0) rfl rfl rfl dX0_turnOver_39 rfl rfl (Nat.le_of_ble_eq_true rfl) (by decide) ?_
  refine j_pop (pc := 42) C dX0_turnOver_42 rfl ?_
  refine j_aload_n (pc := 43) C dX0_turnOver_43 0 rfl ?_
  refine j_get (pc := 44) C (ref := "GrainSilo") (T := TX0) (N := 15) hin 0 rfl rfl 7 (by decide) (C.w 6 rfl) rfl rfl dX0_turnOver_44 ?_
  refine j_istore_n (pc := 47) C (lv' := [(0, .ref (h 0)), (1, .int (zI (K 0))), (2, .int (zI (Dm 0))), (3, .int (zI S))]) dX0_turnOver_47 (by decide) [1, 2, 3, 0] rfl ?_
  refine j_aload_n (pc := 48) C dX0_turnOver_48 0 rfl ?_
  refine j_callV (pc := 49) C (As := []) (rest := []) (kX0_dropSamplesOfLowest l D h c1 c2 c3 (upZ (shf K L) (L - 1) (K 0)) (upZ (shf Dm L) (L - 1) (Dm 0)) ((L - 1) + 1) lo hi su db S dy li so sp tu ah M  (by omega) (by omega) (fun j j0 j1 => by have := hs j j0 j1; omega)) (cwV 0 C.2.2.2.2.1 gX0_turnOver_X0_dropSamplesOfLowest rfl rfl rfl (by decide +kernel) ⟨Nat.le_of_ble_eq_true rfl, Nat.le_of_ble_eq_true rfl⟩) 0 (ci := 0) rfl rfl rfl dX0_turnOver_49 rfl rfl (Nat.le_of_ble_eq_true rfl) (by decide) ?_
  have z1 : 0 ≤ zc (fun j => decide (0 < lo j)) 0 S ∧ zc (fun j => decide (0 < lo j)) 0 S ≤ S - 0 := zc_le _ 0 S hS0
  refine j_aload_n (pc := 52) C dX0_turnOver_52 0 rfl ?_
  refine j_callV (pc := 53) C (As := []) (rest := []) (kX0_lowerSamples l D h c1 c2 c3 (upZ (shf K L) (L - 1) (K 0)) (upZ (shf Dm L) (L - 1) (Dm 0)) ((L - 1) + 1) (cmp (fun j => decide (0 < lo j)) lo S) (cmp (fun j => decide (0 < lo j)) hi S) (cmp (fun j => decide (0 < lo j)) su S) (cmp (fun j => decide (0 < lo j)) db S) (zc (fun j => decide (0 < lo j)) 0 S) dy li so sp tu ah M  (by omega) (by omega)) (cwV 0 C.2.2.2.2.1 gX0_turnOver_X0_lowerSamples rfl rfl rfl (by decide +kernel) ⟨Nat.le_of_ble_eq_true rfl, Nat.le_of_ble_eq_true rfl⟩) 0 (ci := 0) rfl rfl rfl dX0_turnOver_53 rfl rfl (Nat.le_of_ble_eq_true rfl) (by decide) ?_
  refine j_iload_n (pc := 56) C dX0_turnOver_56 3 rfl ?_
  refine j_aload_n (pc := 57) C dX0_turnOver_57 0 rfl ?_
  refine j_get (pc := 58) C (ref := "GrainSilo") (T := TX0) (N := 15) hin 0 rfl rfl 7 (by decide) (C.w 6 rfl) rfl rfl dX0_turnOver_58 ?_
  refine j_isub (pc := 61) C dX0_turnOver_61 ?_
  exact j_iret (pc := 62) C hr dX0_turnOver_62 (by rfl) (by rfl) (by decide) (by decide)
set_option maxHeartbeats 4000000 in
set_option maxRecDepth 100000 in
theorem kX0_setLimit (l : Launch) (D : va_G) (h : Nat → Nat) (c1 c2 c3 : ClassId) (K Dm : Int → Int) (L : Int) (lo hi su db : Int → Int) (S dy li so sp : Int) (tu ah : Int → Int) (M : Int → Int → Int) (a : Int) (h0 : 0 ≤ a) (h1 : a ≤ 40) : cI l yX0_setLimit wsX0_setLimit ({ frames := 1, cells := 0, slots := 0, locals := 20 }) D (tyS c1 c2 c3) [.ref (h 0), .int (zI a)] (wG h c1 c2 K Dm L lo hi su db S dy li so sp tu ah M) (wG h c1 c2 K Dm L lo hi su db S dy a so sp tu ah M) (zI li) 0 0 := by
  refine cI.of (cc := cX0_setLimit) (maxL := 3) (ret := .int) (by decide) rfl (lv := [(0, .ref (h 0)), (1, .int (zI a))]) [0, 1] rfl (Nat.le_of_ble_eq_true rfl) ?_
  intro p e s m args below meth c A C hr
  have C : GC p s m args meth c cX0_setLimit 3 RX0 wsX0_setLimit D (tyS c1 c2 c3) A := C
  have hin : ∀ w ∈ wsX00, w ∈ wsX0_setLimit := fun _ h => List.mem_cons_of_mem _ (List.mem_append_left _ (List.mem_append_right _ h))
  refine j_iload_n (pc := 0) C dX0_setLimit_0 1 rfl ?_
  refine j_callSI (pc := 1) C (As := [.int (zI a)]) (rest := []) (kX0_isDampness l D c1 c2 c3 a ⟨by omega, by omega⟩) (va_cwS 1 C.2.2.2.2.1 gX0_setLimit_X0_isDampness rfl rfl rfl (by decide +kernel) ⟨Nat.le_of_ble_eq_true rfl, Nat.le_of_ble_eq_true rfl⟩) dX0_setLimit_1 rfl rfl (Nat.le_of_ble_eq_true rfl) (by decide) ?_
  refine j_if_ne (pc := 4) C 17 dX0_setLimit_4 (by decide) ⟨by omega, by omega⟩ (fun c_4 => ?_) (fun c_4 => absurd c_4 (by omega))
  refine j_aload_n (pc := 17) C dX0_setLimit_17 0 rfl ?_
  refine j_get (pc := 18) C (ref := "GrainSilo") (T := TX0) (N := 15) hin 0 rfl rfl 9 (by decide) (C.w 3 rfl) rfl rfl dX0_setLimit_18 ?_
  refine j_istore_n (pc := 21) C (lv' := [(0, .ref (h 0)), (1, .int (zI a)), (2, .int (zI li))]) dX0_setLimit_21 (by decide) [1, 2, 0] rfl ?_
  refine j_aload_n (pc := 22) C dX0_setLimit_22 0 rfl ?_
  refine j_iload_n (pc := 23) C dX0_setLimit_23 1 rfl ?_
  refine j_put (pc := 24) C (ref := "GrainSilo") (T := TX0) (N := 15) (ws' := wG h c1 c2 K Dm L lo hi su db S dy a so sp tu ah M) hin tyX0 tyX0_ok nmX0 0 rfl rfl 9 (by decide) (C.w 3 rfl) rfl rfl (by decide +kernel) (Nat.le_of_ble_eq_true rfl) rfl dX0_setLimit_24 ?_
  refine j_iload_n (pc := 27) C dX0_setLimit_27 2 rfl ?_
  exact j_iret (pc := 28) C hr dX0_setLimit_28 (by rfl) (by rfl) (by decide) (by decide)
set_option maxHeartbeats 4000000 in
set_option maxRecDepth 100000 in
theorem kX0_pass (l : Launch) (D : va_G) (h : Nat → Nat) (c1 c2 c3 : ClassId) (K Dm : Int → Int) (L : Int) (lo hi su db : Int → Int) (S dy li so sp : Int) (tu ah : Int → Int) (M : Int → Int → Int) (a : Int) (hok : okS Dm L lo hi su db S) (h0 : 1 ≤ a) (h1 : a ≤ 50) : cI l yX0_pass wsX0_pass ({ frames := 4, cells := 0, slots := 0, locals := 94 }) D (tyS c1 c2 c3) [.ref (h 0), .int (zI a)] (wG h c1 c2 K Dm L lo hi su db S dy li so sp tu ah M) (wG h c1 c2 K (dayF Dm L a) L lo hi su (mix (fun j => db j + a * (hi j - lo j + 1)) db S) S (dy + a) li so sp (dayT Dm L tu a) ah M) (zI (dayC Dm L a)) 0 0 := by
  refine cI.of (cc := cX0_pass) (maxL := 3) (ret := .int) (by decide) rfl (lv := [(0, .ref (h 0)), (1, .int (zI a))]) [0, 1] rfl (Nat.le_of_ble_eq_true rfl) ?_
  intro p e s m args below meth c A C hr
  have C : GC p s m args meth c cX0_pass 3 RX0 wsX0_pass D (tyS c1 c2 c3) A := C
  have hin : ∀ w ∈ wsX00, w ∈ wsX0_pass := fun _ h => List.mem_cons_of_mem _ (List.mem_append_left _ (List.mem_append_right _ h))
  obtain ⟨⟨hL0, hL⟩, ⟨hS0, hS⟩, hf, hs⟩ := id hok
  refine j_iload_n (pc := 0) C dX0_pass_0 1 rfl ?_
  refine j_callSV (pc := 1) C (As := [.int (zI a)]) (rest := []) (kX0_checkDays l D c1 c2 c3 a (by omega) (by omega)) (va_cwS 1 C.2.2.2.2.1 gX0_pass_X0_checkDays rfl rfl rfl (by decide +kernel) ⟨Nat.le_of_ble_eq_true rfl, Nat.le_of_ble_eq_true rfl⟩) dX0_pass_1 rfl rfl (Nat.le_of_ble_eq_true rfl) (by decide) ?_
  refine j_aload_n (pc := 4) C dX0_pass_4 0 rfl ?_
  refine j_aload_n (pc := 5) C dX0_pass_5 0 rfl ?_
  refine j_get (pc := 6) C (ref := "GrainSilo") (T := TX0) (N := 15) hin 0 rfl rfl 1 (by decide) (C.w 1 rfl) rfl rfl dX0_pass_6 ?_
  refine j_iload_n (pc := 9) C dX0_pass_9 1 rfl ?_
  refine j_callI (pc := 10) C (As := [.ref (h 2), .int (zI a)]) (rest := []) (kX0_letDaysGoBy_Dm l D h c1 c2 c3 K Dm L lo hi su db S dy li so sp tu ah M a (by omega) (by omega) (by omega) (by omega) hf) (cwV 2 C.2.2.2.2.1 gX0_pass_X0_letDaysGoBy rfl rfl rfl (by decide +kernel) ⟨Nat.le_of_ble_eq_true rfl, Nat.le_of_ble_eq_true rfl⟩) 0 (ci := 0) rfl rfl rfl dX0_pass_10 rfl rfl (Nat.le_of_ble_eq_true rfl) (by decide) ?_
  refine j_istore_n (pc := 13) C (lv' := [(0, .ref (h 0)), (1, .int (zI a)), (2, .int (zI (dayC Dm L a)))]) dX0_pass_13 (by decide) [1, 2, 0] rfl ?_
  refine j_aload_n (pc := 14) C dX0_pass_14 0 rfl ?_
  refine j_iload_n (pc := 15) C dX0_pass_15 1 rfl ?_
  refine j_callV (pc := 16) C (As := [.int (zI a)]) (rest := []) (kX0_addDoubt l D h c1 c2 c3 K (dayF Dm L a) L lo hi su db S dy li so sp (dayT Dm L tu a) ah M a (by omega) (by omega)) (cwV 1 C.2.2.2.2.1 gX0_pass_X0_addDoubt rfl rfl rfl (by decide +kernel) ⟨Nat.le_of_ble_eq_true rfl, Nat.le_of_ble_eq_true rfl⟩) 0 (ci := 0) rfl rfl rfl dX0_pass_16 rfl rfl (Nat.le_of_ble_eq_true rfl) (by decide) ?_
  refine j_aload_n (pc := 19) C dX0_pass_19 0 rfl ?_
  refine j_dup (pc := 20) C dX0_pass_20 rfl ?_
  refine j_get (pc := 21) C (ref := "GrainSilo") (T := TX0) (N := 15) hin 0 rfl rfl 8 (by decide) (C.w 2 rfl) rfl rfl dX0_pass_21 ?_
  refine j_iload_n (pc := 24) C dX0_pass_24 1 rfl ?_
  refine j_iadd (pc := 25) C dX0_pass_25 ?_
  refine j_put (pc := 26) C (ref := "GrainSilo") (T := TX0) (N := 15) (ws' := wG h c1 c2 K (dayF Dm L a) L lo hi su (mix (fun j => db j + a * (hi j - lo j + 1)) db S) S (dy + a) li so sp (dayT Dm L tu a) ah M) hin tyX0 tyX0_ok nmX0 0 rfl rfl 8 (by decide) (C.w 2 rfl) rfl rfl (by decide +kernel) (Nat.le_of_ble_eq_true rfl) rfl dX0_pass_26 ?_
  refine j_iload_n (pc := 29) C dX0_pass_29 2 rfl ?_
  exact j_iret (pc := 30) C hr dX0_pass_30 (by rfl) (by rfl) (by decide) (by decide)
set_option maxHeartbeats 4000000 in
set_option maxRecDepth 100000 in
theorem kX0_draw (l : Launch) (D : va_G) (h : Nat → Nat) (c1 c2 c3 : ClassId) (K Dm : Int → Int) (L : Int) (lo hi su db : Int → Int) (S dy li so sp : Int) (tu ah : Int → Int) (M : Int → Int → Int) (a b : Int) (h0 : 0 ≤ a) (h1 : a ≤ b) (h2 : b < L) (hL : L ≤ 12) (hS0 : 0 ≤ S) (hS : S < 16) : cI l yX0_draw wsX0_draw ({ frames := 1, cells := 0, slots := 0, locals := 24 }) D (tyS c1 c2 c3) [.ref (h 0), .int (zI a), .int (zI b)] (wG h c1 c2 K Dm L lo hi su db S dy li so sp tu ah M) (wG h c1 c2 K Dm L (upZ lo S a) (upZ hi S b) (upZ su S (zs Dm a (b + 1))) (upZ db S 0) (S + 1) dy li so sp tu ah M) (zI (zs Dm a (b + 1))) 0 0 := by
  refine cI.of (cc := cX0_draw) (maxL := 4) (ret := .int) (by decide) rfl (lv := [(0, .ref (h 0)), (1, .int (zI a)), (2, .int (zI b))]) [0, 1, 2] rfl (Nat.le_of_ble_eq_true rfl) ?_
  intro p e s m args below meth c A C hr
  have C : GC p s m args meth c cX0_draw 4 RX0 wsX0_draw D (tyS c1 c2 c3) A := C
  have hin : ∀ w ∈ wsX00, w ∈ wsX0_draw := fun _ h => List.mem_cons_of_mem _ (List.mem_append_left _ (List.mem_append_left _ (List.mem_append_right _ h)))
  refine j_aload_n (pc := 0) C dX0_draw_0 0 rfl ?_
  refine j_iload_n (pc := 1) C dX0_draw_1 1 rfl ?_
  refine j_iload_n (pc := 2) C dX0_draw_2 2 rfl ?_
  refine j_callV (pc := 3) C (As := [.int (zI a), .int (zI b)]) (rest := []) (kX0_checkLayers l D h c1 c2 c3 K Dm L lo hi su db S dy li so sp tu ah M a b (by omega) (by omega) (by omega) (by omega)) (cwV 2 C.2.2.2.2.1 gX0_draw_X0_checkLayers rfl rfl rfl (by decide +kernel) ⟨Nat.le_of_ble_eq_true rfl, Nat.le_of_ble_eq_true rfl⟩) 0 (ci := 0) rfl rfl rfl dX0_draw_3 rfl rfl (Nat.le_of_ble_eq_true rfl) (by decide) ?_
  refine j_aload_n (pc := 6) C dX0_draw_6 0 rfl ?_
  refine j_get (pc := 7) C (ref := "GrainSilo") (T := TX0) (N := 15) hin 0 rfl rfl 7 (by decide) (C.w 3 rfl) rfl rfl dX0_draw_7 ?_
  refine j_bipush (pc := 10) C dX0_draw_10 (by decide +kernel) ?_
  refine j_icmp_lt (pc := 12) C 25 dX0_draw_12 (by decide) ⟨by omega, by omega⟩ ⟨by omega, by omega⟩ (fun c_12 => ?_) (fun c_12 => absurd c_12 (by omega))
  refine j_aload_n (pc := 25) C dX0_draw_25 0 rfl ?_
  refine j_iload_n (pc := 26) C dX0_draw_26 1 rfl ?_
  refine j_iload_n (pc := 27) C dX0_draw_27 2 rfl ?_
  refine j_callI (pc := 28) C (As := [.int (zI a), .int (zI b)]) (rest := []) (kX0_sumNow l D h c1 c2 c3 K Dm L lo hi su db S dy li so sp tu ah M a b (by omega) (by omega) (by omega)) (cwV 2 C.2.2.2.2.1 gX0_draw_X0_sumNow rfl rfl rfl (by decide +kernel) ⟨Nat.le_of_ble_eq_true rfl, Nat.le_of_ble_eq_true rfl⟩) 0 (ci := 0) rfl rfl rfl dX0_draw_28 rfl rfl (Nat.le_of_ble_eq_true rfl) (by decide) ?_
  refine j_istore_n (pc := 31) C (lv' := [(0, .ref (h 0)), (1, .int (zI a)), (2, .int (zI b)), (3, .int (zI (zs Dm a (b + 1))))]) dX0_draw_31 (by decide) [1, 2, 3, 0] rfl ?_
  refine j_aload_n (pc := 32) C dX0_draw_32 0 rfl ?_
  refine j_get (pc := 33) C (ref := "GrainSilo") (T := TX0) (N := 15) hin 0 rfl rfl 3 (by decide) (C.w 4 rfl) rfl rfl dX0_draw_33 ?_
  refine j_aload_n (pc := 36) C dX0_draw_36 0 rfl ?_
  refine j_get (pc := 37) C (ref := "GrainSilo") (T := TX0) (N := 15) hin 0 rfl rfl 7 (by decide) (C.w 3 rfl) rfl rfl dX0_draw_37 ?_
  refine j_iload_n (pc := 40) C dX0_draw_40 1 rfl ?_
  refine j_iast (pc := 41) C 3 0 rfl rfl (by omega) (by omega) (by decide) (ws' := wG h c1 c2 K Dm L (upZ lo S a) hi su db S dy li so sp tu ah M) rfl dX0_draw_41 ?_
  refine j_aload_n (pc := 42) C dX0_draw_42 0 rfl ?_
  refine j_get (pc := 43) C (ref := "GrainSilo") (T := TX0) (N := 15) hin 0 rfl rfl 4 (by decide) (C.w 5 rfl) rfl rfl dX0_draw_43 ?_
  refine j_aload_n (pc := 46) C dX0_draw_46 0 rfl ?_
  refine j_get (pc := 47) C (ref := "GrainSilo") (T := TX0) (N := 15) hin 0 rfl rfl 7 (by decide) (C.w 3 rfl) rfl rfl dX0_draw_47 ?_
  refine j_iload_n (pc := 50) C dX0_draw_50 2 rfl ?_
  refine j_iast (pc := 51) C 4 0 rfl rfl (by omega) (by omega) (by decide) (ws' := wG h c1 c2 K Dm L (upZ lo S a) (upZ hi S b) su db S dy li so sp tu ah M) rfl dX0_draw_51 ?_
  refine j_aload_n (pc := 52) C dX0_draw_52 0 rfl ?_
  refine j_get (pc := 53) C (ref := "GrainSilo") (T := TX0) (N := 15) hin 0 rfl rfl 5 (by decide) (C.w 6 rfl) rfl rfl dX0_draw_53 ?_
  refine j_aload_n (pc := 56) C dX0_draw_56 0 rfl ?_
  refine j_get (pc := 57) C (ref := "GrainSilo") (T := TX0) (N := 15) hin 0 rfl rfl 7 (by decide) (C.w 3 rfl) rfl rfl dX0_draw_57 ?_
  refine j_iload_n (pc := 60) C dX0_draw_60 3 rfl ?_
  refine j_iast (pc := 61) C 5 0 rfl rfl (by omega) (by omega) (by decide) (ws' := wG h c1 c2 K Dm L (upZ lo S a) (upZ hi S b) (upZ su S (zs Dm a (b + 1))) db S dy li so sp tu ah M) rfl dX0_draw_61 ?_
  refine j_aload_n (pc := 62) C dX0_draw_62 0 rfl ?_
  refine j_get (pc := 63) C (ref := "GrainSilo") (T := TX0) (N := 15) hin 0 rfl rfl 6 (by decide) (C.w 7 rfl) rfl rfl dX0_draw_63 ?_
  refine j_aload_n (pc := 66) C dX0_draw_66 0 rfl ?_
  refine j_get (pc := 67) C (ref := "GrainSilo") (T := TX0) (N := 15) hin 0 rfl rfl 7 (by decide) (C.w 3 rfl) rfl rfl dX0_draw_67 ?_
  refine j_iconst (pc := 70) C dX0_draw_70 ?_
  refine j_iast (pc := 71) C 6 0 rfl rfl (by omega) (by omega) (by decide) (ws' := wG h c1 c2 K Dm L (upZ lo S a) (upZ hi S b) (upZ su S (zs Dm a (b + 1))) (upZ db S 0) S dy li so sp tu ah M) rfl dX0_draw_71 ?_
  refine j_aload_n (pc := 72) C dX0_draw_72 0 rfl ?_
  refine j_dup (pc := 73) C dX0_draw_73 rfl ?_
  refine j_get (pc := 74) C (ref := "GrainSilo") (T := TX0) (N := 15) hin 0 rfl rfl 7 (by decide) (C.w 3 rfl) rfl rfl dX0_draw_74 ?_
  refine j_iconst (pc := 77) C dX0_draw_77 ?_
  refine j_iadd (pc := 78) C dX0_draw_78 ?_
  refine j_put (pc := 79) C (ref := "GrainSilo") (T := TX0) (N := 15) (ws' := wG h c1 c2 K Dm L (upZ lo S a) (upZ hi S b) (upZ su S (zs Dm a (b + 1))) (upZ db S 0) (S + 1) dy li so sp tu ah M) hin tyX0 tyX0_ok nmX0 0 rfl rfl 7 (by decide) (C.w 3 rfl) rfl rfl (by decide +kernel) (Nat.le_of_ble_eq_true rfl) rfl dX0_draw_79 ?_
  refine j_iload_n (pc := 82) C dX0_draw_82 3 rfl ?_
  exact j_iret (pc := 83) C hr dX0_draw_83 (by rfl) (by rfl) (by decide) (by decide)
set_option maxHeartbeats 4000000 in
set_option maxRecDepth 100000 in
theorem kX0_throwAway (l : Launch) (D : va_G) (h : Nat → Nat) (c1 c2 c3 : ClassId) (K Dm : Int → Int) (L : Int) (lo hi su db : Int → Int) (S dy li so sp : Int) (tu ah : Int → Int) (M : Int → Int → Int) (a : Int) (h0 : 0 ≤ a) (h1 : a < S) (h2 : S ≤ 16) : cI l yX0_throwAway wsX0_throwAway ({ frames := 1, cells := 0, slots := 0, locals := 22 }) D (tyS c1 c2 c3) [.ref (h 0), .int (zI a)] (wG h c1 c2 K Dm L lo hi su db S dy li so sp tu ah M) (wG h c1 c2 K Dm L (shA lo a S) (shA hi a S) (shA su a S) (shA db a S) (S - 1) dy li so sp tu ah M) (zI (S - 1)) 0 0 := by
  refine cI.of (cc := cX0_throwAway) (maxL := 3) (ret := .int) (by decide) rfl (lv := [(0, .ref (h 0)), (1, .int (zI a))]) [0, 1] rfl (Nat.le_of_ble_eq_true rfl) ?_
  intro p e s m args below meth c A C hr
  have C : GC p s m args meth c cX0_throwAway 3 RX0 wsX0_throwAway D (tyS c1 c2 c3) A := C
  have hin : ∀ w ∈ wsX00, w ∈ wsX0_throwAway := fun _ h => List.mem_cons_of_mem _ (List.mem_append_left _ (List.mem_append_right _ h))
  refine j_aload_n (pc := 0) C dX0_throwAway_0 0 rfl ?_
  refine j_iload_n (pc := 1) C dX0_throwAway_1 1 rfl ?_
  refine j_callV (pc := 2) C (As := [.int (zI a)]) (rest := []) (kX0_checkSample l D h c1 c2 c3 K Dm L lo hi su db S dy li so sp tu ah M a (by omega) (by omega) (by omega)) (cwV 1 C.2.2.2.2.1 gX0_throwAway_X0_checkSample rfl rfl rfl (by decide +kernel) ⟨Nat.le_of_ble_eq_true rfl, Nat.le_of_ble_eq_true rfl⟩) 0 (ci := 0) rfl rfl rfl dX0_throwAway_2 rfl rfl (Nat.le_of_ble_eq_true rfl) (by decide) ?_
  refine j_iload_n (pc := 5) C dX0_throwAway_5 1 rfl ?_
  refine j_iconst (pc := 6) C dX0_throwAway_6 ?_
  refine j_iadd (pc := 7) C dX0_throwAway_7 ?_
  refine j_istore_n (pc := 8) C (lv' := [(0, .ref (h 0)), (1, .int (zI a)), (2, .int (zI (a + 1)))]) dX0_throwAway_8 (by decide) [1, 2, 0] rfl ?_
  refine J.cast (ws' := wG h c1 c2 K Dm L (shA lo a (a + 1)) (shA hi a (a + 1)) (shA su a (a + 1)) (shA db a (a + 1)) S dy li so sp tu ah M) (lv' := [(0, .ref (h 0)), (1, .int (zI a)), (2, .int (zI ((a + 1))))]) ?_ (by rw [shA_0, shA_0, shA_0, shA_0]) (by rfl) rfl
  refine j_up (fun i : Int => wG h c1 c2 K Dm L (shA lo a i) (shA hi a i) (shA su a i) (shA db a i) S dy li so sp tu ah M) (fun i : Int => [(0, .ref (h 0)), (1, .int (zI a)), (2, .int (zI i))]) (fun i : Int => True) (a + 1) S (by omega) trivial ?_ ?_
  · intro i h0_9 h1_9 hI_9 hk_9
    try dsimp only at hI_9 hk_9 ⊢
    refine j_iload_n (pc := 9) C dX0_throwAway_9 2 rfl ?_
    refine j_aload_n (pc := 10) C dX0_throwAway_10 0 rfl ?_
    refine j_get (pc := 11) C (ref := "GrainSilo") (T := TX0) (N := 15) hin 0 rfl rfl 7 (by decide) (C.w 1 rfl) rfl rfl dX0_throwAway_11 ?_
    refine j_icmp_ge (pc := 14) C 31 dX0_throwAway_14 (by decide) ⟨by omega, by omega⟩ ⟨by omega, by omega⟩ (fun c_14 => absurd c_14 (by omega)) (fun c_14 => ?_)
    refine j_aload_n (pc := 17) C dX0_throwAway_17 0 rfl ?_
    refine j_iload_n (pc := 18) C dX0_throwAway_18 2 rfl ?_
    refine j_iload_n (pc := 19) C dX0_throwAway_19 2 rfl ?_
    refine j_iconst (pc := 20) C dX0_throwAway_20 ?_
    refine j_isub (pc := 21) C dX0_throwAway_21 ?_
    refine j_callV (pc := 22) C (As := [.int (zI i), .int (zI (i - 1))]) (rest := []) (kX0_moveSample l D h c1 c2 c3 K Dm L (shA lo a i) (shA hi a i) (shA su a i) (shA db a i) S dy li so sp tu ah M i (i - 1) (by omega) (by omega) (by omega) (by omega)) (cwV 2 C.2.2.2.2.1 gX0_throwAway_X0_moveSample rfl rfl rfl (by decide +kernel) ⟨Nat.le_of_ble_eq_true rfl, Nat.le_of_ble_eq_true rfl⟩) 0 (ci := 0) rfl rfl rfl dX0_throwAway_22 rfl rfl (Nat.le_of_ble_eq_true rfl) (by decide) ?_
    refine j_iinc (pc := 25) C (lv' := [(0, .ref (h 0)), (1, .int (zI a)), (2, .int (zI (i + 1)))]) dX0_throwAway_25 2 rfl (by decide) [1, 2, 0] rfl ?_
    refine j_goto (pc := 28) C 9 dX0_throwAway_28 (by decide) ?_
    exact J.cast (hk_9 trivial) (by rw [shA_up lo a i h0_9, shA_up hi a i h0_9, shA_up su a i h0_9, shA_up db a i h0_9]) (by rfl) rfl
  · intro hI_9
    try dsimp only at hI_9 ⊢
    refine j_iload_n (pc := 9) C dX0_throwAway_9 2 rfl ?_
    refine j_aload_n (pc := 10) C dX0_throwAway_10 0 rfl ?_
    refine j_get (pc := 11) C (ref := "GrainSilo") (T := TX0) (N := 15) hin 0 rfl rfl 7 (by decide) (C.w 1 rfl) rfl rfl dX0_throwAway_11 ?_
    refine j_icmp_ge (pc := 14) C 31 dX0_throwAway_14 (by decide) ⟨by omega, by omega⟩ ⟨by omega, by omega⟩ (fun c_14 => ?_) (fun c_14 => absurd c_14 (by omega))
    refine j_aload_n (pc := 31) C dX0_throwAway_31 0 rfl ?_
    refine j_dup (pc := 32) C dX0_throwAway_32 rfl ?_
    refine j_get (pc := 33) C (ref := "GrainSilo") (T := TX0) (N := 15) hin 0 rfl rfl 7 (by decide) (C.w 1 rfl) rfl rfl dX0_throwAway_33 ?_
    refine j_iconst (pc := 36) C dX0_throwAway_36 ?_
    refine j_isub (pc := 37) C dX0_throwAway_37 ?_
    refine j_put (pc := 38) C (ref := "GrainSilo") (T := TX0) (N := 15) (ws' := wG h c1 c2 K Dm L (shA lo a S) (shA hi a S) (shA su a S) (shA db a S) (S - 1) dy li so sp tu ah M) hin tyX0 tyX0_ok nmX0 0 rfl rfl 7 (by decide) (C.w 1 rfl) rfl rfl (by decide +kernel) (Nat.le_of_ble_eq_true rfl) rfl dX0_throwAway_38 ?_
    refine j_aload_n (pc := 41) C dX0_throwAway_41 0 rfl ?_
    refine j_get (pc := 42) C (ref := "GrainSilo") (T := TX0) (N := 15) hin 0 rfl rfl 7 (by decide) (C.w 1 rfl) rfl rfl dX0_throwAway_42 ?_
    exact j_iret (pc := 45) C hr dX0_throwAway_45 (by rfl) (by rfl) (by decide) (by decide)
set_option maxHeartbeats 4000000 in
set_option maxRecDepth 100000 in
theorem kX0_lowestOf (l : Launch) (D : va_G) (h : Nat → Nat) (c1 c2 c3 : ClassId) (K Dm : Int → Int) (L : Int) (lo hi su db : Int → Int) (S dy li so sp : Int) (tu ah : Int → Int) (M : Int → Int → Int) (a : Int) (h0 : 0 ≤ a) (h1 : a < S) (h2 : S ≤ 16) : cI l yX0_lowestOf wsX0_lowestOf ({ frames := 1, cells := 0, slots := 0, locals := 21 }) D (tyS c1 c2 c3) [.ref (h 0), .int (zI a)] (wG h c1 c2 K Dm L lo hi su db S dy li so sp tu ah M) (wG h c1 c2 K Dm L lo hi su db S dy li so sp tu ah M) (zI (lo a)) 0 0 := by
  refine cI.of (cc := cX0_lowestOf) (maxL := 2) (ret := .int) (by decide) rfl (lv := [(0, .ref (h 0)), (1, .int (zI a))]) [0, 1] rfl (Nat.le_of_ble_eq_true rfl) ?_
  intro p e s m args below meth c A C hr
  have C : GC p s m args meth c cX0_lowestOf 2 RX0 wsX0_lowestOf D (tyS c1 c2 c3) A := C
  have hin : ∀ w ∈ wsX00, w ∈ wsX0_lowestOf := fun _ h => List.mem_cons_of_mem _ (List.mem_append_left _ (List.mem_append_right _ h))
  refine j_aload_n (pc := 0) C dX0_lowestOf_0 0 rfl ?_
  refine j_iload_n (pc := 1) C dX0_lowestOf_1 1 rfl ?_
  refine j_callV (pc := 2) C (As := [.int (zI a)]) (rest := []) (kX0_checkSample l D h c1 c2 c3 K Dm L lo hi su db S dy li so sp tu ah M a (by omega) (by omega) (by omega)) (cwV 1 C.2.2.2.2.1 gX0_lowestOf_X0_checkSample rfl rfl rfl (by decide +kernel) ⟨Nat.le_of_ble_eq_true rfl, Nat.le_of_ble_eq_true rfl⟩) 0 (ci := 0) rfl rfl rfl dX0_lowestOf_2 rfl rfl (Nat.le_of_ble_eq_true rfl) (by decide) ?_
  refine j_aload_n (pc := 5) C dX0_lowestOf_5 0 rfl ?_
  refine j_get (pc := 6) C (ref := "GrainSilo") (T := TX0) (N := 15) hin 0 rfl rfl 3 (by decide) (C.w 1 rfl) rfl rfl dX0_lowestOf_6 ?_
  refine j_iload_n (pc := 9) C dX0_lowestOf_9 1 rfl ?_
  refine j_iald (pc := 10) C 3 0 rfl rfl (by omega) (by omega) (by decide) dX0_lowestOf_10 ?_
  exact j_iret (pc := 11) C hr dX0_lowestOf_11 (by rfl) (by rfl) (by decide) (by decide)
set_option maxHeartbeats 4000000 in
set_option maxRecDepth 100000 in
theorem kX0_highestOf (l : Launch) (D : va_G) (h : Nat → Nat) (c1 c2 c3 : ClassId) (K Dm : Int → Int) (L : Int) (lo hi su db : Int → Int) (S dy li so sp : Int) (tu ah : Int → Int) (M : Int → Int → Int) (a : Int) (h0 : 0 ≤ a) (h1 : a < S) (h2 : S ≤ 16) : cI l yX0_highestOf wsX0_highestOf ({ frames := 1, cells := 0, slots := 0, locals := 21 }) D (tyS c1 c2 c3) [.ref (h 0), .int (zI a)] (wG h c1 c2 K Dm L lo hi su db S dy li so sp tu ah M) (wG h c1 c2 K Dm L lo hi su db S dy li so sp tu ah M) (zI (hi a)) 0 0 := by
  refine cI.of (cc := cX0_highestOf) (maxL := 2) (ret := .int) (by decide) rfl (lv := [(0, .ref (h 0)), (1, .int (zI a))]) [0, 1] rfl (Nat.le_of_ble_eq_true rfl) ?_
  intro p e s m args below meth c A C hr
  have C : GC p s m args meth c cX0_highestOf 2 RX0 wsX0_highestOf D (tyS c1 c2 c3) A := C
  have hin : ∀ w ∈ wsX00, w ∈ wsX0_highestOf := fun _ h => List.mem_cons_of_mem _ (List.mem_append_left _ (List.mem_append_right _ h))
  refine j_aload_n (pc := 0) C dX0_highestOf_0 0 rfl ?_
  refine j_iload_n (pc := 1) C dX0_highestOf_1 1 rfl ?_
  refine j_callV (pc := 2) C (As := [.int (zI a)]) (rest := []) (kX0_checkSample l D h c1 c2 c3 K Dm L lo hi su db S dy li so sp tu ah M a (by omega) (by omega) (by omega)) (cwV 1 C.2.2.2.2.1 gX0_highestOf_X0_checkSample rfl rfl rfl (by decide +kernel) ⟨Nat.le_of_ble_eq_true rfl, Nat.le_of_ble_eq_true rfl⟩) 0 (ci := 0) rfl rfl rfl dX0_highestOf_2 rfl rfl (Nat.le_of_ble_eq_true rfl) (by decide) ?_
  refine j_aload_n (pc := 5) C dX0_highestOf_5 0 rfl ?_
  refine j_get (pc := 6) C (ref := "GrainSilo") (T := TX0) (N := 15) hin 0 rfl rfl 4 (by decide) (C.w 1 rfl) rfl rfl dX0_highestOf_6 ?_
  refine j_iload_n (pc := 9) C dX0_highestOf_9 1 rfl ?_
  refine j_iald (pc := 10) C 4 0 rfl rfl (by omega) (by omega) (by decide) dX0_highestOf_10 ?_
  exact j_iret (pc := 11) C hr dX0_highestOf_11 (by rfl) (by rfl) (by decide) (by decide)
set_option maxHeartbeats 4000000 in
set_option maxRecDepth 100000 in
theorem kX0_sumOf (l : Launch) (D : va_G) (h : Nat → Nat) (c1 c2 c3 : ClassId) (K Dm : Int → Int) (L : Int) (lo hi su db : Int → Int) (S dy li so sp : Int) (tu ah : Int → Int) (M : Int → Int → Int) (a : Int) (h0 : 0 ≤ a) (h1 : a < S) (h2 : S ≤ 16) : cI l yX0_sumOf wsX0_sumOf ({ frames := 1, cells := 0, slots := 0, locals := 21 }) D (tyS c1 c2 c3) [.ref (h 0), .int (zI a)] (wG h c1 c2 K Dm L lo hi su db S dy li so sp tu ah M) (wG h c1 c2 K Dm L lo hi su db S dy li so sp tu ah M) (zI (su a)) 0 0 := by
  refine cI.of (cc := cX0_sumOf) (maxL := 2) (ret := .int) (by decide) rfl (lv := [(0, .ref (h 0)), (1, .int (zI a))]) [0, 1] rfl (Nat.le_of_ble_eq_true rfl) ?_
  intro p e s m args below meth c A C hr
  have C : GC p s m args meth c cX0_sumOf 2 RX0 wsX0_sumOf D (tyS c1 c2 c3) A := C
  have hin : ∀ w ∈ wsX00, w ∈ wsX0_sumOf := fun _ h => List.mem_cons_of_mem _ (List.mem_append_left _ (List.mem_append_right _ h))
  refine j_aload_n (pc := 0) C dX0_sumOf_0 0 rfl ?_
  refine j_iload_n (pc := 1) C dX0_sumOf_1 1 rfl ?_
  refine j_callV (pc := 2) C (As := [.int (zI a)]) (rest := []) (kX0_checkSample l D h c1 c2 c3 K Dm L lo hi su db S dy li so sp tu ah M a (by omega) (by omega) (by omega)) (cwV 1 C.2.2.2.2.1 gX0_sumOf_X0_checkSample rfl rfl rfl (by decide +kernel) ⟨Nat.le_of_ble_eq_true rfl, Nat.le_of_ble_eq_true rfl⟩) 0 (ci := 0) rfl rfl rfl dX0_sumOf_2 rfl rfl (Nat.le_of_ble_eq_true rfl) (by decide) ?_
  refine j_aload_n (pc := 5) C dX0_sumOf_5 0 rfl ?_
  refine j_get (pc := 6) C (ref := "GrainSilo") (T := TX0) (N := 15) hin 0 rfl rfl 5 (by decide) (C.w 1 rfl) rfl rfl dX0_sumOf_6 ?_
  refine j_iload_n (pc := 9) C dX0_sumOf_9 1 rfl ?_
  refine j_iald (pc := 10) C 5 0 rfl rfl (by omega) (by omega) (by decide) dX0_sumOf_10 ?_
  exact j_iret (pc := 11) C hr dX0_sumOf_11 (by rfl) (by rfl) (by decide) (by decide)
set_option maxHeartbeats 4000000 in
set_option maxRecDepth 100000 in
theorem kX0_doubtOf (l : Launch) (D : va_G) (h : Nat → Nat) (c1 c2 c3 : ClassId) (K Dm : Int → Int) (L : Int) (lo hi su db : Int → Int) (S dy li so sp : Int) (tu ah : Int → Int) (M : Int → Int → Int) (a : Int) (h0 : 0 ≤ a) (h1 : a < S) (h2 : S ≤ 16) : cI l yX0_doubtOf wsX0_doubtOf ({ frames := 1, cells := 0, slots := 0, locals := 21 }) D (tyS c1 c2 c3) [.ref (h 0), .int (zI a)] (wG h c1 c2 K Dm L lo hi su db S dy li so sp tu ah M) (wG h c1 c2 K Dm L lo hi su db S dy li so sp tu ah M) (zI (db a)) 0 0 := by
  refine cI.of (cc := cX0_doubtOf) (maxL := 2) (ret := .int) (by decide) rfl (lv := [(0, .ref (h 0)), (1, .int (zI a))]) [0, 1] rfl (Nat.le_of_ble_eq_true rfl) ?_
  intro p e s m args below meth c A C hr
  have C : GC p s m args meth c cX0_doubtOf 2 RX0 wsX0_doubtOf D (tyS c1 c2 c3) A := C
  have hin : ∀ w ∈ wsX00, w ∈ wsX0_doubtOf := fun _ h => List.mem_cons_of_mem _ (List.mem_append_left _ (List.mem_append_right _ h))
  refine j_aload_n (pc := 0) C dX0_doubtOf_0 0 rfl ?_
  refine j_iload_n (pc := 1) C dX0_doubtOf_1 1 rfl ?_
  refine j_callV (pc := 2) C (As := [.int (zI a)]) (rest := []) (kX0_checkSample l D h c1 c2 c3 K Dm L lo hi su db S dy li so sp tu ah M a (by omega) (by omega) (by omega)) (cwV 1 C.2.2.2.2.1 gX0_doubtOf_X0_checkSample rfl rfl rfl (by decide +kernel) ⟨Nat.le_of_ble_eq_true rfl, Nat.le_of_ble_eq_true rfl⟩) 0 (ci := 0) rfl rfl rfl dX0_doubtOf_2 rfl rfl (Nat.le_of_ble_eq_true rfl) (by decide) ?_
  refine j_aload_n (pc := 5) C dX0_doubtOf_5 0 rfl ?_
  refine j_get (pc := 6) C (ref := "GrainSilo") (T := TX0) (N := 15) hin 0 rfl rfl 6 (by decide) (C.w 1 rfl) rfl rfl dX0_doubtOf_6 ?_
  refine j_iload_n (pc := 9) C dX0_doubtOf_9 1 rfl ?_
  refine j_iald (pc := 10) C 6 0 rfl rfl (by omega) (by omega) (by decide) dX0_doubtOf_10 ?_
  exact j_iret (pc := 11) C hr dX0_doubtOf_11 (by rfl) (by rfl) (by decide) (by decide)
set_option maxHeartbeats 4000000 in
set_option maxRecDepth 100000 in
theorem kX0_kindOf (l : Launch) (D : va_G) (h : Nat → Nat) (c1 c2 c3 : ClassId) (K Dm : Int → Int) (L : Int) (lo hi su db : Int → Int) (S dy li so sp : Int) (tu ah : Int → Int) (M : Int → Int → Int) (a : Int) (h0 : 0 ≤ a) (h1 : a < L) (h2 : L ≤ 12) : cI l yX0_kindOf wsX0_kindOf ({ frames := 1, cells := 0, slots := 0, locals := 21 }) D (tyS c1 c2 c3) [.ref (h 0), .int (zI a)] (wG h c1 c2 K Dm L lo hi su db S dy li so sp tu ah M) (wG h c1 c2 K Dm L lo hi su db S dy li so sp tu ah M) (zI (K a)) 0 0 := by
  refine cI.of (cc := cX0_kindOf) (maxL := 2) (ret := .int) (by decide) rfl (lv := [(0, .ref (h 0)), (1, .int (zI a))]) [0, 1] rfl (Nat.le_of_ble_eq_true rfl) ?_
  intro p e s m args below meth c A C hr
  have C : GC p s m args meth c cX0_kindOf 2 RX0 wsX0_kindOf D (tyS c1 c2 c3) A := C
  have hin : ∀ w ∈ wsX00, w ∈ wsX0_kindOf := fun _ h => List.mem_cons_of_mem _ (List.mem_append_left _ (List.mem_append_right _ h))
  refine j_aload_n (pc := 0) C dX0_kindOf_0 0 rfl ?_
  refine j_iload_n (pc := 1) C dX0_kindOf_1 1 rfl ?_
  refine j_callV (pc := 2) C (As := [.int (zI a)]) (rest := []) (kX0_checkLayer l D h c1 c2 c3 K Dm L lo hi su db S dy li so sp tu ah M a (by omega) (by omega) (by omega)) (cwV 1 C.2.2.2.2.1 gX0_kindOf_X0_checkLayer rfl rfl rfl (by decide +kernel) ⟨Nat.le_of_ble_eq_true rfl, Nat.le_of_ble_eq_true rfl⟩) 0 (ci := 0) rfl rfl rfl dX0_kindOf_2 rfl rfl (Nat.le_of_ble_eq_true rfl) (by decide) ?_
  refine j_aload_n (pc := 5) C dX0_kindOf_5 0 rfl ?_
  refine j_get (pc := 6) C (ref := "GrainSilo") (T := TX0) (N := 15) hin 0 rfl rfl 0 (by decide) (C.w 1 rfl) rfl rfl dX0_kindOf_6 ?_
  refine j_iload_n (pc := 9) C dX0_kindOf_9 1 rfl ?_
  refine j_iald (pc := 10) C 1 0 rfl rfl (by omega) (by omega) (by decide) dX0_kindOf_10 ?_
  exact j_iret (pc := 11) C hr dX0_kindOf_11 (by rfl) (by rfl) (by decide) (by decide)
set_option maxHeartbeats 4000000 in
set_option maxRecDepth 100000 in
theorem kX0_dampnessOf (l : Launch) (D : va_G) (h : Nat → Nat) (c1 c2 c3 : ClassId) (K Dm : Int → Int) (L : Int) (lo hi su db : Int → Int) (S dy li so sp : Int) (tu ah : Int → Int) (M : Int → Int → Int) (a : Int) (h0 : 0 ≤ a) (h1 : a < L) (h2 : L ≤ 12) : cI l yX0_dampnessOf wsX0_dampnessOf ({ frames := 1, cells := 0, slots := 0, locals := 21 }) D (tyS c1 c2 c3) [.ref (h 0), .int (zI a)] (wG h c1 c2 K Dm L lo hi su db S dy li so sp tu ah M) (wG h c1 c2 K Dm L lo hi su db S dy li so sp tu ah M) (zI (Dm a)) 0 0 := by
  refine cI.of (cc := cX0_dampnessOf) (maxL := 2) (ret := .int) (by decide) rfl (lv := [(0, .ref (h 0)), (1, .int (zI a))]) [0, 1] rfl (Nat.le_of_ble_eq_true rfl) ?_
  intro p e s m args below meth c A C hr
  have C : GC p s m args meth c cX0_dampnessOf 2 RX0 wsX0_dampnessOf D (tyS c1 c2 c3) A := C
  have hin : ∀ w ∈ wsX00, w ∈ wsX0_dampnessOf := fun _ h => List.mem_cons_of_mem _ (List.mem_append_left _ (List.mem_append_right _ h))
  refine j_aload_n (pc := 0) C dX0_dampnessOf_0 0 rfl ?_
  refine j_iload_n (pc := 1) C dX0_dampnessOf_1 1 rfl ?_
  refine j_callV (pc := 2) C (As := [.int (zI a)]) (rest := []) (kX0_checkLayer l D h c1 c2 c3 K Dm L lo hi su db S dy li so sp tu ah M a (by omega) (by omega) (by omega)) (cwV 1 C.2.2.2.2.1 gX0_dampnessOf_X0_checkLayer rfl rfl rfl (by decide +kernel) ⟨Nat.le_of_ble_eq_true rfl, Nat.le_of_ble_eq_true rfl⟩) 0 (ci := 0) rfl rfl rfl dX0_dampnessOf_2 rfl rfl (Nat.le_of_ble_eq_true rfl) (by decide) ?_
  refine j_aload_n (pc := 5) C dX0_dampnessOf_5 0 rfl ?_
  refine j_get (pc := 6) C (ref := "GrainSilo") (T := TX0) (N := 15) hin 0 rfl rfl 1 (by decide) (C.w 1 rfl) rfl rfl dX0_dampnessOf_6 ?_
  refine j_iload_n (pc := 9) C dX0_dampnessOf_9 1 rfl ?_
  refine j_iald (pc := 10) C 2 0 rfl rfl (by omega) (by omega) (by decide) dX0_dampnessOf_10 ?_
  exact j_iret (pc := 11) C hr dX0_dampnessOf_11 (by rfl) (by rfl) (by decide) (by decide)
set_option maxHeartbeats 4000000 in
set_option maxRecDepth 100000 in
theorem kX0_layersAheadOf (l : Launch) (D : va_G) (h : Nat → Nat) (c1 c2 c3 : ClassId) (K Dm : Int → Int) (L : Int) (lo hi su db : Int → Int) (S dy li so sp : Int) (tu ah : Int → Int) (M : Int → Int → Int) (a : Int) (h0 : 0 ≤ a) (h1 : a ≤ 4) (hL0 : 0 ≤ L) (hL : L ≤ 12) (hk : ∀ j, 0 ≤ j → j < L → 0 ≤ K j ∧ K j ≤ 4) : cI l yX0_layersAheadOf wsX0_layersAheadOf ({ frames := 1, cells := 0, slots := 0, locals := 20 }) D (tyS c1 c2 c3) [.ref (h 0), .int (zI a)] (wG h c1 c2 K Dm L lo hi su db S dy li so sp tu ah M) (wG h c1 c2 K Dm L lo hi su db S dy li so sp tu ah M) (zI (fidx (fun j => decide (K j = a)) L)) 0 0 := by
  refine cI.of (cc := cX0_layersAheadOf) (maxL := 3) (ret := .int) (by decide) rfl (lv := [(0, .ref (h 0)), (1, .int (zI a))]) [0, 1] rfl (Nat.le_of_ble_eq_true rfl) ?_
  intro p e s m args below meth c A C hr
  have C : GC p s m args meth c cX0_layersAheadOf 3 RX0 wsX0_layersAheadOf D (tyS c1 c2 c3) A := C
  have hin : ∀ w ∈ wsX00, w ∈ wsX0_layersAheadOf := fun _ h => List.mem_cons_of_mem _ (List.mem_append_left _ (List.mem_append_right _ h))
  refine j_iload_n (pc := 0) C dX0_layersAheadOf_0 1 rfl ?_
  refine j_callSI (pc := 1) C (As := [.int (zI a)]) (rest := []) (kX0_isKind l D c1 c2 c3 a ⟨by omega, by omega⟩) (va_cwS 1 C.2.2.2.2.1 gX0_layersAheadOf_X0_isKind rfl rfl rfl (by decide +kernel) ⟨Nat.le_of_ble_eq_true rfl, Nat.le_of_ble_eq_true rfl⟩) dX0_layersAheadOf_1 rfl rfl (Nat.le_of_ble_eq_true rfl) (by decide) ?_
  refine j_if_ne (pc := 4) C 17 dX0_layersAheadOf_4 (by decide) ⟨by omega, by omega⟩ (fun c_4 => ?_) (fun c_4 => absurd c_4 (by omega))
  refine j_iconst (pc := 17) C dX0_layersAheadOf_17 ?_
  refine j_istore_n (pc := 18) C (lv' := [(0, .ref (h 0)), (1, .int (zI a)), (2, .int (zI 0))]) dX0_layersAheadOf_18 (by decide) [1, 2, 0] rfl ?_
  refine J.cast (ws' := wG h c1 c2 K Dm L lo hi su db S dy li so sp tu ah M) (lv' := [(0, .ref (h 0)), (1, .int (zI a)), (2, .int (zI 0))]) ?_ (by rfl) (by rfl) rfl
  refine j_up (fun i : Int => wG h c1 c2 K Dm L lo hi su db S dy li so sp tu ah M) (fun i : Int => [(0, .ref (h 0)), (1, .int (zI a)), (2, .int (zI i))]) (fun i : Int => ∀ j, 0 ≤ j → j < i → ¬ K j = a) 0 L (by omega) (fun j j0 j1 => absurd j1 (by omega)) ?_ ?_
  · intro i h0_19 h1_19 hI_19 hk_19
    try dsimp only at hI_19 hk_19 ⊢
    have q := hk i h0_19 h1_19
    refine j_iload_n (pc := 19) C dX0_layersAheadOf_19 2 rfl ?_
    refine j_aload_n (pc := 20) C dX0_layersAheadOf_20 0 rfl ?_
    refine j_get (pc := 21) C (ref := "GrainSilo") (T := TX0) (N := 15) hin 0 rfl rfl 2 (by decide) (C.w 3 rfl) rfl rfl dX0_layersAheadOf_21 ?_
    refine j_icmp_ge (pc := 24) C 45 dX0_layersAheadOf_24 (by decide) ⟨by omega, by omega⟩ ⟨by omega, by omega⟩ (fun c_24 => absurd c_24 (by omega)) (fun c_24 => ?_)
    refine j_aload_n (pc := 27) C dX0_layersAheadOf_27 0 rfl ?_
    refine j_get (pc := 28) C (ref := "GrainSilo") (T := TX0) (N := 15) hin 0 rfl rfl 0 (by decide) (C.w 4 rfl) rfl rfl dX0_layersAheadOf_28 ?_
    refine j_iload_n (pc := 31) C dX0_layersAheadOf_31 2 rfl ?_
    refine j_iald (pc := 32) C 1 0 rfl rfl (by omega) (by omega) (by decide) dX0_layersAheadOf_32 ?_
    refine j_iload_n (pc := 33) C dX0_layersAheadOf_33 1 rfl ?_
    refine j_icmp_ne (pc := 34) C 39 dX0_layersAheadOf_34 (by decide) ⟨by omega, by omega⟩ ⟨by omega, by omega⟩ (fun c_34 => ?_) (fun c_34 => ?_)
    · skip
      refine j_iinc (pc := 39) C (lv' := [(0, .ref (h 0)), (1, .int (zI a)), (2, .int (zI (i + 1)))]) dX0_layersAheadOf_39 2 rfl (by decide) [1, 2, 0] rfl ?_
      refine j_goto (pc := 42) C 19 dX0_layersAheadOf_42 (by decide) ?_
      exact J.cast (hk_19 (fun j j0 j1 => by rcases Int.lt_or_eq_of_le (show j ≤ i by omega) with q | q; exact hI_19 j j0 q; subst q; exact c_34)) (by rfl) (by rfl) rfl
    · skip
      refine j_iload_n (pc := 37) C dX0_layersAheadOf_37 2 rfl ?_
      exact j_iret (pc := 38) C hr dX0_layersAheadOf_38 (by rw [fidx_is h0_19 h1_19 (decide_eq_true c_34) (fun j j0 j1 => decide_eq_false (hI_19 j j0 j1))]) (by rfl) (by decide) (by decide)
  · intro hI_19
    try dsimp only at hI_19 ⊢
    refine j_iload_n (pc := 19) C dX0_layersAheadOf_19 2 rfl ?_
    refine j_aload_n (pc := 20) C dX0_layersAheadOf_20 0 rfl ?_
    refine j_get (pc := 21) C (ref := "GrainSilo") (T := TX0) (N := 15) hin 0 rfl rfl 2 (by decide) (C.w 3 rfl) rfl rfl dX0_layersAheadOf_21 ?_
    refine j_icmp_ge (pc := 24) C 45 dX0_layersAheadOf_24 (by decide) ⟨by omega, by omega⟩ ⟨by omega, by omega⟩ (fun c_24 => ?_) (fun c_24 => absurd c_24 (by omega))
    refine j_iconst (pc := 45) C dX0_layersAheadOf_45 ?_
    exact j_iret (pc := 46) C hr dX0_layersAheadOf_46 (by rw [fidx_no hL0 (fun j j0 j1 => decide_eq_false (hI_19 j j0 j1))]) (by rfl) (by decide) (by decide)
set_option maxHeartbeats 4000000 in
set_option maxRecDepth 100000 in
theorem kX0_leastOf (l : Launch) (D : va_G) (h : Nat → Nat) (c1 c2 c3 : ClassId) (K Dm : Int → Int) (L : Int) (lo hi su db : Int → Int) (S dy li so sp : Int) (tu ah : Int → Int) (M : Int → Int → Int) (a : Int) (hok : okS Dm L lo hi su db S) (h0 : 0 ≤ a) (h1 : a < L) : cI l yX0_leastOf wsX0_leastOf ({ frames := 3, cells := 0, slots := 0, locals := 69 }) D (tyS c1 c2 c3) [.ref (h 0), .int (zI a)] (wG h c1 c2 K Dm L lo hi su db S dy li so sp tu ah M) (wG h c1 c2 K Dm L lo hi su db S dy li so sp tu ah (wg L lo hi su db M S)) (zI (-((wg L lo hi su db M S) (a + 1) a))) 0 0 := by
  refine cI.of (cc := cX0_leastOf) (maxL := 2) (ret := .int) (by decide) rfl (lv := [(0, .ref (h 0)), (1, .int (zI a))]) [0, 1] rfl (Nat.le_of_ble_eq_true rfl) ?_
  intro p e s m args below meth c A C hr
  have C : GC p s m args meth c cX0_leastOf 2 RX0 wsX0_leastOf D (tyS c1 c2 c3) A := C
  have hin : ∀ w ∈ wsX00, w ∈ wsX0_leastOf := fun _ h => List.mem_cons_of_mem _ (List.mem_append_left _ (List.mem_append_right _ h))
  obtain ⟨⟨hL0, hL⟩, ⟨hS0, hS⟩, hf, hs⟩ := id hok
  have w := wg_ok hok M S hS0 (Int.le_refl _)
  have hB := Wok_B hL hf w
  refine j_aload_n (pc := 0) C dX0_leastOf_0 0 rfl ?_
  refine j_iload_n (pc := 1) C dX0_leastOf_1 1 rfl ?_
  refine j_callV (pc := 2) C (As := [.int (zI a)]) (rest := []) (kX0_checkLayer l D h c1 c2 c3 K Dm L lo hi su db S dy li so sp tu ah M a (by omega) (by omega) (by omega)) (cwV 1 C.2.2.2.2.1 gX0_leastOf_X0_checkLayer rfl rfl rfl (by decide +kernel) ⟨Nat.le_of_ble_eq_true rfl, Nat.le_of_ble_eq_true rfl⟩) 0 (ci := 0) rfl rfl rfl dX0_leastOf_2 rfl rfl (Nat.le_of_ble_eq_true rfl) (by decide) ?_
  refine j_aload_n (pc := 5) C dX0_leastOf_5 0 rfl ?_
  refine j_callV (pc := 6) C (As := []) (rest := []) (kX0_weighSamples l D h c1 c2 c3 K Dm L lo hi su db S dy li so sp tu ah M  hok) (cwV 0 C.2.2.2.2.1 gX0_leastOf_X0_weighSamples rfl rfl rfl (by decide +kernel) ⟨Nat.le_of_ble_eq_true rfl, Nat.le_of_ble_eq_true rfl⟩) 0 (ci := 0) rfl rfl rfl dX0_leastOf_6 rfl rfl (Nat.le_of_ble_eq_true rfl) (by decide) ?_
  refine j_aload_n (pc := 9) C dX0_leastOf_9 0 rfl ?_
  refine j_iload_n (pc := 10) C dX0_leastOf_10 1 rfl ?_
  refine j_iload_n (pc := 11) C dX0_leastOf_11 1 rfl ?_
  refine j_callI (pc := 12) C (As := [.int (zI a), .int (zI a)]) (rest := []) (kX0_least l D h c1 c2 c3 K Dm L lo hi su db S dy li so sp tu ah (wg L lo hi su db M S) a a (by omega) (by omega) (by omega) (by omega)) (cwV 2 C.2.2.2.2.1 gX0_leastOf_X0_least rfl rfl rfl (by decide +kernel) ⟨Nat.le_of_ble_eq_true rfl, Nat.le_of_ble_eq_true rfl⟩) 0 (ci := 0) rfl rfl rfl dX0_leastOf_12 rfl rfl (Nat.le_of_ble_eq_true rfl) (by decide) ?_
  exact j_iret (pc := 15) C hr dX0_leastOf_15 (by rfl) (by rfl) (by decide) (by decide)
set_option maxHeartbeats 4000000 in
set_option maxRecDepth 100000 in
theorem kX0_greatestOf (l : Launch) (D : va_G) (h : Nat → Nat) (c1 c2 c3 : ClassId) (K Dm : Int → Int) (L : Int) (lo hi su db : Int → Int) (S dy li so sp : Int) (tu ah : Int → Int) (M : Int → Int → Int) (a : Int) (hok : okS Dm L lo hi su db S) (h0 : 0 ≤ a) (h1 : a < L) : cI l yX0_greatestOf wsX0_greatestOf ({ frames := 3, cells := 0, slots := 0, locals := 69 }) D (tyS c1 c2 c3) [.ref (h 0), .int (zI a)] (wG h c1 c2 K Dm L lo hi su db S dy li so sp tu ah M) (wG h c1 c2 K Dm L lo hi su db S dy li so sp tu ah (wg L lo hi su db M S)) (zI ((wg L lo hi su db M S) a (a + 1))) 0 0 := by
  refine cI.of (cc := cX0_greatestOf) (maxL := 2) (ret := .int) (by decide) rfl (lv := [(0, .ref (h 0)), (1, .int (zI a))]) [0, 1] rfl (Nat.le_of_ble_eq_true rfl) ?_
  intro p e s m args below meth c A C hr
  have C : GC p s m args meth c cX0_greatestOf 2 RX0 wsX0_greatestOf D (tyS c1 c2 c3) A := C
  have hin : ∀ w ∈ wsX00, w ∈ wsX0_greatestOf := fun _ h => List.mem_cons_of_mem _ (List.mem_append_left _ (List.mem_append_right _ h))
  obtain ⟨⟨hL0, hL⟩, ⟨hS0, hS⟩, hf, hs⟩ := id hok
  have w := wg_ok hok M S hS0 (Int.le_refl _)
  have hB := Wok_B hL hf w
  refine j_aload_n (pc := 0) C dX0_greatestOf_0 0 rfl ?_
  refine j_iload_n (pc := 1) C dX0_greatestOf_1 1 rfl ?_
  refine j_callV (pc := 2) C (As := [.int (zI a)]) (rest := []) (kX0_checkLayer l D h c1 c2 c3 K Dm L lo hi su db S dy li so sp tu ah M a (by omega) (by omega) (by omega)) (cwV 1 C.2.2.2.2.1 gX0_greatestOf_X0_checkLayer rfl rfl rfl (by decide +kernel) ⟨Nat.le_of_ble_eq_true rfl, Nat.le_of_ble_eq_true rfl⟩) 0 (ci := 0) rfl rfl rfl dX0_greatestOf_2 rfl rfl (Nat.le_of_ble_eq_true rfl) (by decide) ?_
  refine j_aload_n (pc := 5) C dX0_greatestOf_5 0 rfl ?_
  refine j_callV (pc := 6) C (As := []) (rest := []) (kX0_weighSamples l D h c1 c2 c3 K Dm L lo hi su db S dy li so sp tu ah M  hok) (cwV 0 C.2.2.2.2.1 gX0_greatestOf_X0_weighSamples rfl rfl rfl (by decide +kernel) ⟨Nat.le_of_ble_eq_true rfl, Nat.le_of_ble_eq_true rfl⟩) 0 (ci := 0) rfl rfl rfl dX0_greatestOf_6 rfl rfl (Nat.le_of_ble_eq_true rfl) (by decide) ?_
  refine j_aload_n (pc := 9) C dX0_greatestOf_9 0 rfl ?_
  refine j_iload_n (pc := 10) C dX0_greatestOf_10 1 rfl ?_
  refine j_iload_n (pc := 11) C dX0_greatestOf_11 1 rfl ?_
  refine j_callI (pc := 12) C (As := [.int (zI a), .int (zI a)]) (rest := []) (kX0_greatest l D h c1 c2 c3 K Dm L lo hi su db S dy li so sp tu ah (wg L lo hi su db M S) a a (by omega) (by omega) (by omega) (by omega)) (cwV 2 C.2.2.2.2.1 gX0_greatestOf_X0_greatest rfl rfl rfl (by decide +kernel) ⟨Nat.le_of_ble_eq_true rfl, Nat.le_of_ble_eq_true rfl⟩) 0 (ci := 0) rfl rfl rfl dX0_greatestOf_12 rfl rfl (Nat.le_of_ble_eq_true rfl) (by decide) ?_
  exact j_iret (pc := 15) C hr dX0_greatestOf_15 (by rfl) (by rfl) (by decide) (by decide)
set_option maxHeartbeats 4000000 in
set_option maxRecDepth 100000 in
theorem kX0_isKnown (l : Launch) (D : va_G) (h : Nat → Nat) (c1 c2 c3 : ClassId) (K Dm : Int → Int) (L : Int) (lo hi su db : Int → Int) (S dy li so sp : Int) (tu ah : Int → Int) (M : Int → Int → Int) (a : Int) (hok : okS Dm L lo hi su db S) (h0 : 0 ≤ a) (h1 : a < L) : cI l yX0_isKnown wsX0_isKnown ({ frames := 3, cells := 0, slots := 0, locals := 69 }) D (tyS c1 c2 c3) [.ref (h 0), .int (zI a)] (wG h c1 c2 K Dm L lo hi su db S dy li so sp tu ah M) (wG h c1 c2 K Dm L lo hi su db S dy li so sp tu ah (wg L lo hi su db M S)) (zI (if -((wg L lo hi su db M S) (a + 1) a) = (wg L lo hi su db M S) a (a + 1) then 1 else 0)) 0 0 := by
  refine cI.of (cc := cX0_isKnown) (maxL := 2) (ret := .boolean) (by decide) rfl (lv := [(0, .ref (h 0)), (1, .int (zI a))]) [0, 1] rfl (Nat.le_of_ble_eq_true rfl) ?_
  intro p e s m args below meth c A C hr
  have C : GC p s m args meth c cX0_isKnown 2 RX0 wsX0_isKnown D (tyS c1 c2 c3) A := C
  have hin : ∀ w ∈ wsX00, w ∈ wsX0_isKnown := fun _ h => List.mem_cons_of_mem _ (List.mem_append_left _ (List.mem_append_right _ h))
  obtain ⟨⟨hL0, hL⟩, ⟨hS0, hS⟩, hf, hs⟩ := id hok
  have w := wg_ok hok M S hS0 (Int.le_refl _)
  have hB := Wok_B hL hf w
  have q1 := hB a (a + 1) (by omega) (by omega) (by omega) (by omega)
  have q2 := hB (a + 1) a (by omega) (by omega) (by omega) (by omega)
  refine j_aload_n (pc := 0) C dX0_isKnown_0 0 rfl ?_
  refine j_iload_n (pc := 1) C dX0_isKnown_1 1 rfl ?_
  refine j_callV (pc := 2) C (As := [.int (zI a)]) (rest := []) (kX0_checkLayer l D h c1 c2 c3 K Dm L lo hi su db S dy li so sp tu ah M a (by omega) (by omega) (by omega)) (cwV 1 C.2.2.2.2.1 gX0_isKnown_X0_checkLayer rfl rfl rfl (by decide +kernel) ⟨Nat.le_of_ble_eq_true rfl, Nat.le_of_ble_eq_true rfl⟩) 0 (ci := 0) rfl rfl rfl dX0_isKnown_2 rfl rfl (Nat.le_of_ble_eq_true rfl) (by decide) ?_
  refine j_aload_n (pc := 5) C dX0_isKnown_5 0 rfl ?_
  refine j_callV (pc := 6) C (As := []) (rest := []) (kX0_weighSamples l D h c1 c2 c3 K Dm L lo hi su db S dy li so sp tu ah M  hok) (cwV 0 C.2.2.2.2.1 gX0_isKnown_X0_weighSamples rfl rfl rfl (by decide +kernel) ⟨Nat.le_of_ble_eq_true rfl, Nat.le_of_ble_eq_true rfl⟩) 0 (ci := 0) rfl rfl rfl dX0_isKnown_6 rfl rfl (Nat.le_of_ble_eq_true rfl) (by decide) ?_
  refine j_aload_n (pc := 9) C dX0_isKnown_9 0 rfl ?_
  refine j_iload_n (pc := 10) C dX0_isKnown_10 1 rfl ?_
  refine j_iload_n (pc := 11) C dX0_isKnown_11 1 rfl ?_
  refine j_callI (pc := 12) C (As := [.int (zI a), .int (zI a)]) (rest := []) (kX0_least l D h c1 c2 c3 K Dm L lo hi su db S dy li so sp tu ah (wg L lo hi su db M S) a a (by omega) (by omega) (by omega) (by omega)) (cwV 2 C.2.2.2.2.1 gX0_isKnown_X0_least rfl rfl rfl (by decide +kernel) ⟨Nat.le_of_ble_eq_true rfl, Nat.le_of_ble_eq_true rfl⟩) 0 (ci := 0) rfl rfl rfl dX0_isKnown_12 rfl rfl (Nat.le_of_ble_eq_true rfl) (by decide) ?_
  refine j_aload_n (pc := 15) C dX0_isKnown_15 0 rfl ?_
  refine j_iload_n (pc := 16) C dX0_isKnown_16 1 rfl ?_
  refine j_iload_n (pc := 17) C dX0_isKnown_17 1 rfl ?_
  refine j_callI (pc := 18) C (As := [.int (zI a), .int (zI a)]) (rest := [.int (zI (-((wg L lo hi su db M S) (a + 1) a)))]) (kX0_greatest l D h c1 c2 c3 K Dm L lo hi su db S dy li so sp tu ah (wg L lo hi su db M S) a a (by omega) (by omega) (by omega) (by omega)) (cwV 2 C.2.2.2.2.1 gX0_isKnown_X0_greatest rfl rfl rfl (by decide +kernel) ⟨Nat.le_of_ble_eq_true rfl, Nat.le_of_ble_eq_true rfl⟩) 0 (ci := 0) rfl rfl rfl dX0_isKnown_18 rfl rfl (Nat.le_of_ble_eq_true rfl) (by decide) ?_
  refine j_icmp_ne (pc := 21) C 28 dX0_isKnown_21 (by decide) ⟨by omega, by omega⟩ ⟨by omega, by omega⟩ (fun c_21 => ?_) (fun c_21 => ?_)
  · skip
    refine j_iconst (pc := 28) C dX0_isKnown_28 ?_
    exact j_zret (pc := 29) C hr dX0_isKnown_29 rfl (by first | rfl | rw [if_pos (by omega)] | rw [if_neg (by omega)]) (by rfl) (by decide) (by decide)
  · skip
    refine j_iconst (pc := 24) C dX0_isKnown_24 ?_
    refine j_goto (pc := 25) C 29 dX0_isKnown_25 (by decide) ?_
    exact j_zret (pc := 29) C hr dX0_isKnown_29 rfl (by first | rfl | rw [if_pos (by omega)] | rw [if_neg (by omega)]) (by rfl) (by decide) (by decide)
set_option maxHeartbeats 4000000 in
set_option maxRecDepth 100000 in
theorem kX0_surelyDry (l : Launch) (D : va_G) (h : Nat → Nat) (c1 c2 c3 : ClassId) (K Dm : Int → Int) (L : Int) (lo hi su db : Int → Int) (S dy li so sp : Int) (tu ah : Int → Int) (M : Int → Int → Int) (hok : okS Dm L lo hi su db S) (l0 : 0 ≤ li) (l1 : li ≤ 40) : cI l yX0_surelyDry wsX0_surelyDry ({ frames := 3, cells := 0, slots := 0, locals := 69 }) D (tyS c1 c2 c3) [.ref (h 0)] (wG h c1 c2 K Dm L lo hi su db S dy li so sp tu ah M) (wG h c1 c2 K Dm L lo hi su db S dy li so sp tu ah (wg L lo hi su db M S)) (zI (nDry (wg L lo hi su db M S) li L)) 0 0 := by
  refine cI.of (cc := cX0_surelyDry) (maxL := 1) (ret := .int) (by decide) rfl (lv := [(0, .ref (h 0))]) [0] rfl (Nat.le_of_ble_eq_true rfl) ?_
  intro p e s m args below meth c A C hr
  have C : GC p s m args meth c cX0_surelyDry 1 RX0 wsX0_surelyDry D (tyS c1 c2 c3) A := C
  have hin : ∀ w ∈ wsX00, w ∈ wsX0_surelyDry := fun _ h => List.mem_cons_of_mem _ (List.mem_append_right _ h)
  obtain ⟨⟨hL0, hL⟩, ⟨hS0, hS⟩, hf, hs⟩ := id hok
  have w := wg_ok hok M S hS0 (Int.le_refl _)
  have hB := Wok_B hL hf w
  refine j_aload_n (pc := 0) C dX0_surelyDry_0 0 rfl ?_
  refine j_callV (pc := 1) C (As := []) (rest := []) (kX0_weighSamples l D h c1 c2 c3 K Dm L lo hi su db S dy li so sp tu ah M  hok) (cwV 0 C.2.2.2.2.1 gX0_surelyDry_X0_weighSamples rfl rfl rfl (by decide +kernel) ⟨Nat.le_of_ble_eq_true rfl, Nat.le_of_ble_eq_true rfl⟩) 0 (ci := 0) rfl rfl rfl dX0_surelyDry_1 rfl rfl (Nat.le_of_ble_eq_true rfl) (by decide) ?_
  refine j_aload_n (pc := 4) C dX0_surelyDry_4 0 rfl ?_
  refine j_callI (pc := 5) C (As := []) (rest := []) (kX0_countSurelyDry l D h c1 c2 c3 K Dm L lo hi su db S dy li so sp tu ah (wg L lo hi su db M S)  (by omega) (by omega) (by omega) (by omega) hB) (cwV 0 C.2.2.2.2.1 gX0_surelyDry_X0_countSurelyDry rfl rfl rfl (by decide +kernel) ⟨Nat.le_of_ble_eq_true rfl, Nat.le_of_ble_eq_true rfl⟩) 0 (ci := 0) rfl rfl rfl dX0_surelyDry_5 rfl rfl (Nat.le_of_ble_eq_true rfl) (by decide) ?_
  exact j_iret (pc := 8) C hr dX0_surelyDry_8 (by rfl) (by rfl) (by decide) (by decide)
set_option maxHeartbeats 4000000 in
set_option maxRecDepth 100000 in
theorem kX0_surelyDamp (l : Launch) (D : va_G) (h : Nat → Nat) (c1 c2 c3 : ClassId) (K Dm : Int → Int) (L : Int) (lo hi su db : Int → Int) (S dy li so sp : Int) (tu ah : Int → Int) (M : Int → Int → Int) (hok : okS Dm L lo hi su db S) (l0 : 0 ≤ li) (l1 : li ≤ 40) : cI l yX0_surelyDamp wsX0_surelyDamp ({ frames := 3, cells := 0, slots := 0, locals := 69 }) D (tyS c1 c2 c3) [.ref (h 0)] (wG h c1 c2 K Dm L lo hi su db S dy li so sp tu ah M) (wG h c1 c2 K Dm L lo hi su db S dy li so sp tu ah (wg L lo hi su db M S)) (zI (nDamp (wg L lo hi su db M S) li L)) 0 0 := by
  refine cI.of (cc := cX0_surelyDamp) (maxL := 1) (ret := .int) (by decide) rfl (lv := [(0, .ref (h 0))]) [0] rfl (Nat.le_of_ble_eq_true rfl) ?_
  intro p e s m args below meth c A C hr
  have C : GC p s m args meth c cX0_surelyDamp 1 RX0 wsX0_surelyDamp D (tyS c1 c2 c3) A := C
  have hin : ∀ w ∈ wsX00, w ∈ wsX0_surelyDamp := fun _ h => List.mem_cons_of_mem _ (List.mem_append_right _ h)
  obtain ⟨⟨hL0, hL⟩, ⟨hS0, hS⟩, hf, hs⟩ := id hok
  have w := wg_ok hok M S hS0 (Int.le_refl _)
  have hB := Wok_B hL hf w
  refine j_aload_n (pc := 0) C dX0_surelyDamp_0 0 rfl ?_
  refine j_callV (pc := 1) C (As := []) (rest := []) (kX0_weighSamples l D h c1 c2 c3 K Dm L lo hi su db S dy li so sp tu ah M  hok) (cwV 0 C.2.2.2.2.1 gX0_surelyDamp_X0_weighSamples rfl rfl rfl (by decide +kernel) ⟨Nat.le_of_ble_eq_true rfl, Nat.le_of_ble_eq_true rfl⟩) 0 (ci := 0) rfl rfl rfl dX0_surelyDamp_1 rfl rfl (Nat.le_of_ble_eq_true rfl) (by decide) ?_
  refine j_aload_n (pc := 4) C dX0_surelyDamp_4 0 rfl ?_
  refine j_callI (pc := 5) C (As := []) (rest := []) (kX0_countSurelyDamp l D h c1 c2 c3 K Dm L lo hi su db S dy li so sp tu ah (wg L lo hi su db M S)  (by omega) (by omega) (by omega) (by omega) hB) (cwV 0 C.2.2.2.2.1 gX0_surelyDamp_X0_countSurelyDamp rfl rfl rfl (by decide +kernel) ⟨Nat.le_of_ble_eq_true rfl, Nat.le_of_ble_eq_true rfl⟩) 0 (ci := 0) rfl rfl rfl dX0_surelyDamp_5 rfl rfl (Nat.le_of_ble_eq_true rfl) (by decide) ?_
  exact j_iret (pc := 8) C hr dX0_surelyDamp_8 (by rfl) (by rfl) (by decide) (by decide)
set_option maxHeartbeats 4000000 in
set_option maxRecDepth 100000 in
theorem kX0_worstLayer (l : Launch) (D : va_G) (h : Nat → Nat) (c1 c2 c3 : ClassId) (K Dm : Int → Int) (L : Int) (lo hi su db : Int → Int) (S dy li so sp : Int) (tu ah : Int → Int) (M : Int → Int → Int) (hok : okS Dm L lo hi su db S) (h0 : 0 < L) : cI l yX0_worstLayer wsX0_worstLayer ({ frames := 3, cells := 0, slots := 0, locals := 69 }) D (tyS c1 c2 c3) [.ref (h 0)] (wG h c1 c2 K Dm L lo hi su db S dy li so sp tu ah M) (wG h c1 c2 K Dm L lo hi su db S dy li so sp tu ah (wg L lo hi su db M S)) (zI (ag (fun x y => decide ((wg L lo hi su db M S) y (y + 1) < (wg L lo hi su db M S) x (x + 1))) L)) 0 0 := by
  refine cI.of (cc := cX0_worstLayer) (maxL := 3) (ret := .int) (by decide) rfl (lv := [(0, .ref (h 0))]) [0] rfl (Nat.le_of_ble_eq_true rfl) ?_
  intro p e s m args below meth c A C hr
  have C : GC p s m args meth c cX0_worstLayer 3 RX0 wsX0_worstLayer D (tyS c1 c2 c3) A := C
  have hin : ∀ w ∈ wsX00, w ∈ wsX0_worstLayer := fun _ h => List.mem_cons_of_mem _ (List.mem_append_left _ (List.mem_append_right _ h))
  obtain ⟨⟨hL0, hL⟩, ⟨hS0, hS⟩, hf, hs⟩ := id hok
  have w := wg_ok hok M S hS0 (Int.le_refl _)
  have hB := Wok_B hL hf w
  refine j_aload_n (pc := 0) C dX0_worstLayer_0 0 rfl ?_
  refine j_callV (pc := 1) C (As := []) (rest := []) (kX0_checkNotEmpty l D h c1 c2 c3 K Dm L lo hi su db S dy li so sp tu ah M  (by omega) (by omega)) (cwV 0 C.2.2.2.2.1 gX0_worstLayer_X0_checkNotEmpty rfl rfl rfl (by decide +kernel) ⟨Nat.le_of_ble_eq_true rfl, Nat.le_of_ble_eq_true rfl⟩) 0 (ci := 0) rfl rfl rfl dX0_worstLayer_1 rfl rfl (Nat.le_of_ble_eq_true rfl) (by decide) ?_
  refine j_aload_n (pc := 4) C dX0_worstLayer_4 0 rfl ?_
  refine j_callV (pc := 5) C (As := []) (rest := []) (kX0_weighSamples l D h c1 c2 c3 K Dm L lo hi su db S dy li so sp tu ah M  hok) (cwV 0 C.2.2.2.2.1 gX0_worstLayer_X0_weighSamples rfl rfl rfl (by decide +kernel) ⟨Nat.le_of_ble_eq_true rfl, Nat.le_of_ble_eq_true rfl⟩) 0 (ci := 0) rfl rfl rfl dX0_worstLayer_5 rfl rfl (Nat.le_of_ble_eq_true rfl) (by decide) ?_
  refine j_iconst (pc := 8) C dX0_worstLayer_8 ?_
  refine j_istore_n (pc := 9) C (lv' := [(0, .ref (h 0)), (1, .int (zI 0))]) dX0_worstLayer_9 (by decide) [1, 0] rfl ?_
  refine j_iconst (pc := 10) C dX0_worstLayer_10 ?_
  refine j_istore_n (pc := 11) C (lv' := [(0, .ref (h 0)), (1, .int (zI 0)), (2, .int (zI 1))]) dX0_worstLayer_11 (by decide) [1, 2, 0] rfl ?_
  refine J.cast (ws' := wG h c1 c2 K Dm L lo hi su db S dy li so sp tu ah (wg L lo hi su db M S)) (lv' := [(0, .ref (h 0)), (1, .int (zI (ag (fun x y => decide ((wg L lo hi su db M S) y (y + 1) < (wg L lo hi su db M S) x (x + 1))) 1))), (2, .int (zI 1))]) ?_ (by rfl) (by rfl) rfl
  refine j_up (fun i : Int => wG h c1 c2 K Dm L lo hi su db S dy li so sp tu ah (wg L lo hi su db M S)) (fun i : Int => [(0, .ref (h 0)), (1, .int (zI (ag (fun x y => decide ((wg L lo hi su db M S) y (y + 1) < (wg L lo hi su db M S) x (x + 1))) i))), (2, .int (zI i))]) (fun i : Int => True) 1 L (by omega) trivial ?_ ?_
  · intro i h0_12 h1_12 hI_12 hk_12
    try dsimp only at hI_12 hk_12 ⊢
    have g := ag_in (fun x y => decide ((wg L lo hi su db M S) y (y + 1) < (wg L lo hi su db M S) x (x + 1))) i h0_12
    have q1 := hB i (i + 1) (by omega) (by omega) (by omega) (by omega)
    have q2 := hB (ag (fun x y => decide ((wg L lo hi su db M S) y (y + 1) < (wg L lo hi su db M S) x (x + 1))) i) (ag (fun x y => decide ((wg L lo hi su db M S) y (y + 1) < (wg L lo hi su db M S) x (x + 1))) i + 1) (by omega) (by omega) (by omega) (by omega)
    refine j_iload_n (pc := 12) C dX0_worstLayer_12 2 rfl ?_
    refine j_aload_n (pc := 13) C dX0_worstLayer_13 0 rfl ?_
    refine j_get (pc := 14) C (ref := "GrainSilo") (T := TX0) (N := 15) hin 0 rfl rfl 2 (by decide) (C.w 1 rfl) rfl rfl dX0_worstLayer_14 ?_
    refine j_icmp_ge (pc := 17) C 43 dX0_worstLayer_17 (by decide) ⟨by omega, by omega⟩ ⟨by omega, by omega⟩ (fun c_17 => absurd c_17 (by omega)) (fun c_17 => ?_)
    refine j_aload_n (pc := 20) C dX0_worstLayer_20 0 rfl ?_
    refine j_iload_n (pc := 21) C dX0_worstLayer_21 2 rfl ?_
    refine j_iload_n (pc := 22) C dX0_worstLayer_22 2 rfl ?_
    refine j_callI (pc := 23) C (As := [.int (zI i), .int (zI i)]) (rest := []) (kX0_greatest l D h c1 c2 c3 K Dm L lo hi su db S dy li so sp tu ah (wg L lo hi su db M S) i i (by omega) (by omega) (by omega) (by omega)) (cwV 2 C.2.2.2.2.1 gX0_worstLayer_X0_greatest rfl rfl rfl (by decide +kernel) ⟨Nat.le_of_ble_eq_true rfl, Nat.le_of_ble_eq_true rfl⟩) 0 (ci := 0) rfl rfl rfl dX0_worstLayer_23 rfl rfl (Nat.le_of_ble_eq_true rfl) (by decide) ?_
    refine j_aload_n (pc := 26) C dX0_worstLayer_26 0 rfl ?_
    refine j_iload_n (pc := 27) C dX0_worstLayer_27 1 rfl ?_
    refine j_iload_n (pc := 28) C dX0_worstLayer_28 1 rfl ?_
    refine j_callI (pc := 29) C (As := [.int (zI (ag (fun x y => decide ((wg L lo hi su db M S) y (y + 1) < (wg L lo hi su db M S) x (x + 1))) i)), .int (zI (ag (fun x y => decide ((wg L lo hi su db M S) y (y + 1) < (wg L lo hi su db M S) x (x + 1))) i))]) (rest := [.int (zI ((wg L lo hi su db M S) i (i + 1)))]) (kX0_greatest l D h c1 c2 c3 K Dm L lo hi su db S dy li so sp tu ah (wg L lo hi su db M S) (ag (fun x y => decide ((wg L lo hi su db M S) y (y + 1) < (wg L lo hi su db M S) x (x + 1))) i) (ag (fun x y => decide ((wg L lo hi su db M S) y (y + 1) < (wg L lo hi su db M S) x (x + 1))) i) (by omega) (by omega) (by omega) (by omega)) (cwV 2 C.2.2.2.2.1 gX0_worstLayer_X0_greatest rfl rfl rfl (by decide +kernel) ⟨Nat.le_of_ble_eq_true rfl, Nat.le_of_ble_eq_true rfl⟩) 0 (ci := 0) rfl rfl rfl dX0_worstLayer_29 rfl rfl (Nat.le_of_ble_eq_true rfl) (by decide) ?_
    refine j_icmp_le (pc := 32) C 37 dX0_worstLayer_32 (by decide) ⟨by omega, by omega⟩ ⟨by omega, by omega⟩ (fun c_32 => ?_) (fun c_32 => ?_)
    · skip
      have e2 : ¬ (wg L lo hi su db M S) (ag (fun x y => decide ((wg L lo hi su db M S) y (y + 1) < (wg L lo hi su db M S) x (x + 1))) i) (ag (fun x y => decide ((wg L lo hi su db M S) y (y + 1) < (wg L lo hi su db M S) x (x + 1))) i + 1) < (wg L lo hi su db M S) i (i + 1) := by omega
      refine j_iinc (pc := 37) C (lv' := [(0, .ref (h 0)), (1, .int (zI (ag (fun x y => decide ((wg L lo hi su db M S) y (y + 1) < (wg L lo hi su db M S) x (x + 1))) i))), (2, .int (zI (i + 1)))]) dX0_worstLayer_37 2 rfl (by decide) [1, 2, 0] rfl ?_
      refine j_goto (pc := 40) C 12 dX0_worstLayer_40 (by decide) ?_
      exact J.cast (hk_12 trivial) (by rfl) (by first | (rw [ag_up (fun x y => decide ((wg L lo hi su db M S) y (y + 1) < (wg L lo hi su db M S) x (x + 1))) i h0_12, if_neg (fun q => e2 (of_decide_eq_true q))]) | (rw [ag_up (fun x y => decide ((wg L lo hi su db M S) y (y + 1) < (wg L lo hi su db M S) x (x + 1))) i h0_12, if_pos (decide_eq_true e2)])) rfl
    · skip
      have e2 : (wg L lo hi su db M S) (ag (fun x y => decide ((wg L lo hi su db M S) y (y + 1) < (wg L lo hi su db M S) x (x + 1))) i) (ag (fun x y => decide ((wg L lo hi su db M S) y (y + 1) < (wg L lo hi su db M S) x (x + 1))) i + 1) < (wg L lo hi su db M S) i (i + 1) := by omega
      refine j_iload_n (pc := 35) C dX0_worstLayer_35 2 rfl ?_
      refine j_istore_n (pc := 36) C (lv' := [(0, .ref (h 0)), (1, .int (zI i)), (2, .int (zI i))]) dX0_worstLayer_36 (by decide) [1, 0, 2] rfl ?_
      refine j_iinc (pc := 37) C (lv' := [(0, .ref (h 0)), (1, .int (zI i)), (2, .int (zI (i + 1)))]) dX0_worstLayer_37 2 rfl (by decide) [1, 2, 0] rfl ?_
      refine j_goto (pc := 40) C 12 dX0_worstLayer_40 (by decide) ?_
      exact J.cast (hk_12 trivial) (by rfl) (by first | (rw [ag_up (fun x y => decide ((wg L lo hi su db M S) y (y + 1) < (wg L lo hi su db M S) x (x + 1))) i h0_12, if_neg (fun q => e2 (of_decide_eq_true q))]) | (rw [ag_up (fun x y => decide ((wg L lo hi su db M S) y (y + 1) < (wg L lo hi su db M S) x (x + 1))) i h0_12, if_pos (decide_eq_true e2)])) rfl
  · intro hI_12
    try dsimp only at hI_12 ⊢
    refine j_iload_n (pc := 12) C dX0_worstLayer_12 2 rfl ?_
    refine j_aload_n (pc := 13) C dX0_worstLayer_13 0 rfl ?_
    refine j_get (pc := 14) C (ref := "GrainSilo") (T := TX0) (N := 15) hin 0 rfl rfl 2 (by decide) (C.w 1 rfl) rfl rfl dX0_worstLayer_14 ?_
    refine j_icmp_ge (pc := 17) C 43 dX0_worstLayer_17 (by decide) ⟨by omega, by omega⟩ ⟨by omega, by omega⟩ (fun c_17 => ?_) (fun c_17 => absurd c_17 (by omega))
    refine j_iload_n (pc := 43) C dX0_worstLayer_43 1 rfl ?_
    exact j_iret (pc := 44) C hr dX0_worstLayer_44 (by rfl) (by rfl) (by decide) (by decide)
set_option maxHeartbeats 4000000 in
set_option maxRecDepth 100000 in
theorem kX0_doubt (l : Launch) (D : va_G) (h : Nat → Nat) (c1 c2 c3 : ClassId) (K Dm : Int → Int) (L : Int) (lo hi su db : Int → Int) (S dy li so sp : Int) (tu ah : Int → Int) (M : Int → Int → Int) (hok : okS Dm L lo hi su db S) : cI l yX0_doubt wsX0_doubt ({ frames := 3, cells := 0, slots := 0, locals := 69 }) D (tyS c1 c2 c3) [.ref (h 0)] (wG h c1 c2 K Dm L lo hi su db S dy li so sp tu ah M) (wG h c1 c2 K Dm L lo hi su db S dy li so sp tu ah (wg L lo hi su db M S)) (zI (dNow (wg L lo hi su db M S) L)) 0 0 := by
  refine cI.of (cc := cX0_doubt) (maxL := 1) (ret := .int) (by decide) rfl (lv := [(0, .ref (h 0))]) [0] rfl (Nat.le_of_ble_eq_true rfl) ?_
  intro p e s m args below meth c A C hr
  have C : GC p s m args meth c cX0_doubt 1 RX0 wsX0_doubt D (tyS c1 c2 c3) A := C
  have hin : ∀ w ∈ wsX00, w ∈ wsX0_doubt := fun _ h => List.mem_cons_of_mem _ (List.mem_append_right _ h)
  obtain ⟨⟨hL0, hL⟩, ⟨hS0, hS⟩, hf, hs⟩ := id hok
  have w := wg_ok hok M S hS0 (Int.le_refl _)
  have hB := Wok_B hL hf w
  refine j_aload_n (pc := 0) C dX0_doubt_0 0 rfl ?_
  refine j_callV (pc := 1) C (As := []) (rest := []) (kX0_weighSamples l D h c1 c2 c3 K Dm L lo hi su db S dy li so sp tu ah M  hok) (cwV 0 C.2.2.2.2.1 gX0_doubt_X0_weighSamples rfl rfl rfl (by decide +kernel) ⟨Nat.le_of_ble_eq_true rfl, Nat.le_of_ble_eq_true rfl⟩) 0 (ci := 0) rfl rfl rfl dX0_doubt_1 rfl rfl (Nat.le_of_ble_eq_true rfl) (by decide) ?_
  refine j_aload_n (pc := 4) C dX0_doubt_4 0 rfl ?_
  refine j_callI (pc := 5) C (As := []) (rest := []) (kX0_doubtNow l D h c1 c2 c3 K Dm L lo hi su db S dy li so sp tu ah (wg L lo hi su db M S)  (by omega) (by omega)) (cwV 0 C.2.2.2.2.1 gX0_doubt_X0_doubtNow rfl rfl rfl (by decide +kernel) ⟨Nat.le_of_ble_eq_true rfl, Nat.le_of_ble_eq_true rfl⟩) 0 (ci := 0) rfl rfl rfl dX0_doubt_5 rfl rfl (Nat.le_of_ble_eq_true rfl) (by decide) ?_
  exact j_iret (pc := 8) C hr dX0_doubt_8 (by rfl) (by rfl) (by decide) (by decide)
set_option maxHeartbeats 4000000 in
set_option maxRecDepth 100000 in
theorem kX0_leastSum (l : Launch) (D : va_G) (h : Nat → Nat) (c1 c2 c3 : ClassId) (K Dm : Int → Int) (L : Int) (lo hi su db : Int → Int) (S dy li so sp : Int) (tu ah : Int → Int) (M : Int → Int → Int) (a b : Int) (hok : okS Dm L lo hi su db S) (h0 : 0 ≤ a) (h1 : a ≤ b) (h2 : b < L) : cI l yX0_leastSum wsX0_leastSum ({ frames := 3, cells := 0, slots := 0, locals := 69 }) D (tyS c1 c2 c3) [.ref (h 0), .int (zI a), .int (zI b)] (wG h c1 c2 K Dm L lo hi su db S dy li so sp tu ah M) (wG h c1 c2 K Dm L lo hi su db S dy li so sp tu ah (wg L lo hi su db M S)) (zI (-((wg L lo hi su db M S) (b + 1) a))) 0 0 := by
  refine cI.of (cc := cX0_leastSum) (maxL := 3) (ret := .int) (by decide) rfl (lv := [(0, .ref (h 0)), (1, .int (zI a)), (2, .int (zI b))]) [0, 1, 2] rfl (Nat.le_of_ble_eq_true rfl) ?_
  intro p e s m args below meth c A C hr
  have C : GC p s m args meth c cX0_leastSum 3 RX0 wsX0_leastSum D (tyS c1 c2 c3) A := C
  have hin : ∀ w ∈ wsX00, w ∈ wsX0_leastSum := fun _ h => List.mem_cons_of_mem _ (List.mem_append_left _ (List.mem_append_right _ h))
  obtain ⟨⟨hL0, hL⟩, ⟨hS0, hS⟩, hf, hs⟩ := id hok
  have w := wg_ok hok M S hS0 (Int.le_refl _)
  have hB := Wok_B hL hf w
  refine j_aload_n (pc := 0) C dX0_leastSum_0 0 rfl ?_
  refine j_iload_n (pc := 1) C dX0_leastSum_1 1 rfl ?_
  refine j_iload_n (pc := 2) C dX0_leastSum_2 2 rfl ?_
  refine j_callV (pc := 3) C (As := [.int (zI a), .int (zI b)]) (rest := []) (kX0_checkLayers l D h c1 c2 c3 K Dm L lo hi su db S dy li so sp tu ah M a b (by omega) (by omega) (by omega) (by omega)) (cwV 2 C.2.2.2.2.1 gX0_leastSum_X0_checkLayers rfl rfl rfl (by decide +kernel) ⟨Nat.le_of_ble_eq_true rfl, Nat.le_of_ble_eq_true rfl⟩) 0 (ci := 0) rfl rfl rfl dX0_leastSum_3 rfl rfl (Nat.le_of_ble_eq_true rfl) (by decide) ?_
  refine j_aload_n (pc := 6) C dX0_leastSum_6 0 rfl ?_
  refine j_callV (pc := 7) C (As := []) (rest := []) (kX0_weighSamples l D h c1 c2 c3 K Dm L lo hi su db S dy li so sp tu ah M  hok) (cwV 0 C.2.2.2.2.1 gX0_leastSum_X0_weighSamples rfl rfl rfl (by decide +kernel) ⟨Nat.le_of_ble_eq_true rfl, Nat.le_of_ble_eq_true rfl⟩) 0 (ci := 0) rfl rfl rfl dX0_leastSum_7 rfl rfl (Nat.le_of_ble_eq_true rfl) (by decide) ?_
  refine j_aload_n (pc := 10) C dX0_leastSum_10 0 rfl ?_
  refine j_iload_n (pc := 11) C dX0_leastSum_11 1 rfl ?_
  refine j_iload_n (pc := 12) C dX0_leastSum_12 2 rfl ?_
  refine j_callI (pc := 13) C (As := [.int (zI a), .int (zI b)]) (rest := []) (kX0_least l D h c1 c2 c3 K Dm L lo hi su db S dy li so sp tu ah (wg L lo hi su db M S) a b (by omega) (by omega) (by omega) (by omega)) (cwV 2 C.2.2.2.2.1 gX0_leastSum_X0_least rfl rfl rfl (by decide +kernel) ⟨Nat.le_of_ble_eq_true rfl, Nat.le_of_ble_eq_true rfl⟩) 0 (ci := 0) rfl rfl rfl dX0_leastSum_13 rfl rfl (Nat.le_of_ble_eq_true rfl) (by decide) ?_
  exact j_iret (pc := 16) C hr dX0_leastSum_16 (by rfl) (by rfl) (by decide) (by decide)
set_option maxHeartbeats 4000000 in
set_option maxRecDepth 100000 in
theorem kX0_greatestSum (l : Launch) (D : va_G) (h : Nat → Nat) (c1 c2 c3 : ClassId) (K Dm : Int → Int) (L : Int) (lo hi su db : Int → Int) (S dy li so sp : Int) (tu ah : Int → Int) (M : Int → Int → Int) (a b : Int) (hok : okS Dm L lo hi su db S) (h0 : 0 ≤ a) (h1 : a ≤ b) (h2 : b < L) : cI l yX0_greatestSum wsX0_greatestSum ({ frames := 3, cells := 0, slots := 0, locals := 69 }) D (tyS c1 c2 c3) [.ref (h 0), .int (zI a), .int (zI b)] (wG h c1 c2 K Dm L lo hi su db S dy li so sp tu ah M) (wG h c1 c2 K Dm L lo hi su db S dy li so sp tu ah (wg L lo hi su db M S)) (zI ((wg L lo hi su db M S) a (b + 1))) 0 0 := by
  refine cI.of (cc := cX0_greatestSum) (maxL := 3) (ret := .int) (by decide) rfl (lv := [(0, .ref (h 0)), (1, .int (zI a)), (2, .int (zI b))]) [0, 1, 2] rfl (Nat.le_of_ble_eq_true rfl) ?_
  intro p e s m args below meth c A C hr
  have C : GC p s m args meth c cX0_greatestSum 3 RX0 wsX0_greatestSum D (tyS c1 c2 c3) A := C
  have hin : ∀ w ∈ wsX00, w ∈ wsX0_greatestSum := fun _ h => List.mem_cons_of_mem _ (List.mem_append_left _ (List.mem_append_right _ h))
  obtain ⟨⟨hL0, hL⟩, ⟨hS0, hS⟩, hf, hs⟩ := id hok
  have w := wg_ok hok M S hS0 (Int.le_refl _)
  have hB := Wok_B hL hf w
  refine j_aload_n (pc := 0) C dX0_greatestSum_0 0 rfl ?_
  refine j_iload_n (pc := 1) C dX0_greatestSum_1 1 rfl ?_
  refine j_iload_n (pc := 2) C dX0_greatestSum_2 2 rfl ?_
  refine j_callV (pc := 3) C (As := [.int (zI a), .int (zI b)]) (rest := []) (kX0_checkLayers l D h c1 c2 c3 K Dm L lo hi su db S dy li so sp tu ah M a b (by omega) (by omega) (by omega) (by omega)) (cwV 2 C.2.2.2.2.1 gX0_greatestSum_X0_checkLayers rfl rfl rfl (by decide +kernel) ⟨Nat.le_of_ble_eq_true rfl, Nat.le_of_ble_eq_true rfl⟩) 0 (ci := 0) rfl rfl rfl dX0_greatestSum_3 rfl rfl (Nat.le_of_ble_eq_true rfl) (by decide) ?_
  refine j_aload_n (pc := 6) C dX0_greatestSum_6 0 rfl ?_
  refine j_callV (pc := 7) C (As := []) (rest := []) (kX0_weighSamples l D h c1 c2 c3 K Dm L lo hi su db S dy li so sp tu ah M  hok) (cwV 0 C.2.2.2.2.1 gX0_greatestSum_X0_weighSamples rfl rfl rfl (by decide +kernel) ⟨Nat.le_of_ble_eq_true rfl, Nat.le_of_ble_eq_true rfl⟩) 0 (ci := 0) rfl rfl rfl dX0_greatestSum_7 rfl rfl (Nat.le_of_ble_eq_true rfl) (by decide) ?_
  refine j_aload_n (pc := 10) C dX0_greatestSum_10 0 rfl ?_
  refine j_iload_n (pc := 11) C dX0_greatestSum_11 1 rfl ?_
  refine j_iload_n (pc := 12) C dX0_greatestSum_12 2 rfl ?_
  refine j_callI (pc := 13) C (As := [.int (zI a), .int (zI b)]) (rest := []) (kX0_greatest l D h c1 c2 c3 K Dm L lo hi su db S dy li so sp tu ah (wg L lo hi su db M S) a b (by omega) (by omega) (by omega) (by omega)) (cwV 2 C.2.2.2.2.1 gX0_greatestSum_X0_greatest rfl rfl rfl (by decide +kernel) ⟨Nat.le_of_ble_eq_true rfl, Nat.le_of_ble_eq_true rfl⟩) 0 (ci := 0) rfl rfl rfl dX0_greatestSum_13 rfl rfl (Nat.le_of_ble_eq_true rfl) (by decide) ?_
  exact j_iret (pc := 16) C hr dX0_greatestSum_16 (by rfl) (by rfl) (by decide) (by decide)
set_option maxHeartbeats 4000000 in
set_option maxRecDepth 100000 in
theorem kX0_doubtBehind (l : Launch) (D : va_G) (h : Nat → Nat) (c1 c2 c3 : ClassId) (K Dm : Int → Int) (L : Int) (lo hi su db : Int → Int) (S dy li so sp : Int) (tu ah : Int → Int) (M : Int → Int → Int) (a b : Int) (hok : okS Dm L lo hi su db S) (h0 : 0 ≤ a) (h1 : a ≤ b) (h2 : b < L) : cI l yX0_doubtBehind wsX0_doubtBehind ({ frames := 3, cells := 0, slots := 0, locals := 73 }) D (tyS c1 c2 c3) [.ref (h 0), .int (zI a), .int (zI b)] (wG h c1 c2 K Dm L lo hi su db S dy li so sp tu ah M) (wG h c1 c2 K Dm L lo hi su db S dy li so sp tu ah (wg L lo hi su db M S)) (zI (dIf (wg L lo hi su db M S) Dm L a b)) 0 0 := by
  refine cI.of (cc := cX0_doubtBehind) (maxL := 3) (ret := .int) (by decide) rfl (lv := [(0, .ref (h 0)), (1, .int (zI a)), (2, .int (zI b))]) [0, 1, 2] rfl (Nat.le_of_ble_eq_true rfl) ?_
  intro p e s m args below meth c A C hr
  have C : GC p s m args meth c cX0_doubtBehind 3 RX0 wsX0_doubtBehind D (tyS c1 c2 c3) A := C
  have hin : ∀ w ∈ wsX00, w ∈ wsX0_doubtBehind := fun _ h => List.mem_cons_of_mem _ (List.mem_append_left _ (List.mem_append_right _ h))
  obtain ⟨⟨hL0, hL⟩, ⟨hS0, hS⟩, hf, hs⟩ := id hok
  have w := wg_ok hok M S hS0 (Int.le_refl _)
  have hB := Wok_B hL hf w
  refine j_aload_n (pc := 0) C dX0_doubtBehind_0 0 rfl ?_
  refine j_iload_n (pc := 1) C dX0_doubtBehind_1 1 rfl ?_
  refine j_iload_n (pc := 2) C dX0_doubtBehind_2 2 rfl ?_
  refine j_callV (pc := 3) C (As := [.int (zI a), .int (zI b)]) (rest := []) (kX0_checkLayers l D h c1 c2 c3 K Dm L lo hi su db S dy li so sp tu ah M a b (by omega) (by omega) (by omega) (by omega)) (cwV 2 C.2.2.2.2.1 gX0_doubtBehind_X0_checkLayers rfl rfl rfl (by decide +kernel) ⟨Nat.le_of_ble_eq_true rfl, Nat.le_of_ble_eq_true rfl⟩) 0 (ci := 0) rfl rfl rfl dX0_doubtBehind_3 rfl rfl (Nat.le_of_ble_eq_true rfl) (by decide) ?_
  refine j_aload_n (pc := 6) C dX0_doubtBehind_6 0 rfl ?_
  refine j_callV (pc := 7) C (As := []) (rest := []) (kX0_weighSamples l D h c1 c2 c3 K Dm L lo hi su db S dy li so sp tu ah M  hok) (cwV 0 C.2.2.2.2.1 gX0_doubtBehind_X0_weighSamples rfl rfl rfl (by decide +kernel) ⟨Nat.le_of_ble_eq_true rfl, Nat.le_of_ble_eq_true rfl⟩) 0 (ci := 0) rfl rfl rfl dX0_doubtBehind_7 rfl rfl (Nat.le_of_ble_eq_true rfl) (by decide) ?_
  refine j_aload_n (pc := 10) C dX0_doubtBehind_10 0 rfl ?_
  refine j_iload_n (pc := 11) C dX0_doubtBehind_11 1 rfl ?_
  refine j_iload_n (pc := 12) C dX0_doubtBehind_12 2 rfl ?_
  refine j_callI (pc := 13) C (As := [.int (zI a), .int (zI b)]) (rest := []) (kX0_doubtIfDrawn l D h c1 c2 c3 K Dm L lo hi su db S dy li so sp tu ah (wg L lo hi su db M S) a b (by omega) (by omega) (by omega) (by omega) (by omega) hf hB) (cwV 2 C.2.2.2.2.1 gX0_doubtBehind_X0_doubtIfDrawn rfl rfl rfl (by decide +kernel) ⟨Nat.le_of_ble_eq_true rfl, Nat.le_of_ble_eq_true rfl⟩) 0 (ci := 0) rfl rfl rfl dX0_doubtBehind_13 rfl rfl (Nat.le_of_ble_eq_true rfl) (by decide) ?_
  exact j_iret (pc := 16) C hr dX0_doubtBehind_16 (by rfl) (by rfl) (by decide) (by decide)
set_option maxHeartbeats 4000000 in
set_option maxRecDepth 100000 in
theorem kX0_bestToLookAt (l : Launch) (D : va_G) (h : Nat → Nat) (c1 c2 c3 : ClassId) (K Dm : Int → Int) (L : Int) (lo hi su db : Int → Int) (S dy li so sp : Int) (tu ah : Int → Int) (M : Int → Int → Int) (hok : okS Dm L lo hi su db S) (h0 : 0 < L) : cI l yX0_bestToLookAt wsX0_bestToLookAt ({ frames := 3, cells := 0, slots := 0, locals := 73 }) D (tyS c1 c2 c3) [.ref (h 0)] (wG h c1 c2 K Dm L lo hi su db S dy li so sp tu ah M) (wG h c1 c2 K Dm L lo hi su db S dy li so sp tu ah (wg L lo hi su db M S)) (zI (ag (fun x y => decide (dIf (wg L lo hi su db M S) Dm L x x < dIf (wg L lo hi su db M S) Dm L y y)) L)) 0 0 := by
  refine cI.of (cc := cX0_bestToLookAt) (maxL := 5) (ret := .int) (by decide) rfl (lv := [(0, .ref (h 0))]) [0] rfl (Nat.le_of_ble_eq_true rfl) ?_
  intro p e s m args below meth c A C hr
  have C : GC p s m args meth c cX0_bestToLookAt 5 RX0 wsX0_bestToLookAt D (tyS c1 c2 c3) A := C
  have hin : ∀ w ∈ wsX00, w ∈ wsX0_bestToLookAt := fun _ h => List.mem_cons_of_mem _ (List.mem_append_left _ (List.mem_append_right _ h))
  obtain ⟨⟨hL0, hL⟩, ⟨hS0, hS⟩, hf, hs⟩ := id hok
  have w := wg_ok hok M S hS0 (Int.le_refl _)
  have hB := Wok_B hL hf w
  refine j_aload_n (pc := 0) C dX0_bestToLookAt_0 0 rfl ?_
  refine j_callV (pc := 1) C (As := []) (rest := []) (kX0_checkNotEmpty l D h c1 c2 c3 K Dm L lo hi su db S dy li so sp tu ah M  (by omega) (by omega)) (cwV 0 C.2.2.2.2.1 gX0_bestToLookAt_X0_checkNotEmpty rfl rfl rfl (by decide +kernel) ⟨Nat.le_of_ble_eq_true rfl, Nat.le_of_ble_eq_true rfl⟩) 0 (ci := 0) rfl rfl rfl dX0_bestToLookAt_1 rfl rfl (Nat.le_of_ble_eq_true rfl) (by decide) ?_
  refine j_aload_n (pc := 4) C dX0_bestToLookAt_4 0 rfl ?_
  refine j_callV (pc := 5) C (As := []) (rest := []) (kX0_weighSamples l D h c1 c2 c3 K Dm L lo hi su db S dy li so sp tu ah M  hok) (cwV 0 C.2.2.2.2.1 gX0_bestToLookAt_X0_weighSamples rfl rfl rfl (by decide +kernel) ⟨Nat.le_of_ble_eq_true rfl, Nat.le_of_ble_eq_true rfl⟩) 0 (ci := 0) rfl rfl rfl dX0_bestToLookAt_5 rfl rfl (Nat.le_of_ble_eq_true rfl) (by decide) ?_
  refine j_iconst (pc := 8) C dX0_bestToLookAt_8 ?_
  refine j_istore_n (pc := 9) C (lv' := [(0, .ref (h 0)), (1, .int (zI 0))]) dX0_bestToLookAt_9 (by decide) [1, 0] rfl ?_
  refine j_aload_n (pc := 10) C dX0_bestToLookAt_10 0 rfl ?_
  refine j_iconst (pc := 11) C dX0_bestToLookAt_11 ?_
  refine j_iconst (pc := 12) C dX0_bestToLookAt_12 ?_
  refine j_callI (pc := 13) C (As := [.int (zI 0), .int (zI 0)]) (rest := []) (kX0_doubtIfDrawn l D h c1 c2 c3 K Dm L lo hi su db S dy li so sp tu ah (wg L lo hi su db M S) 0 0 (by omega) (by omega) (by omega) (by omega) (by omega) hf hB) (cwV 2 C.2.2.2.2.1 gX0_bestToLookAt_X0_doubtIfDrawn rfl rfl rfl (by decide +kernel) ⟨Nat.le_of_ble_eq_true rfl, Nat.le_of_ble_eq_true rfl⟩) 0 (ci := 0) rfl rfl rfl dX0_bestToLookAt_13 rfl rfl (Nat.le_of_ble_eq_true rfl) (by decide) ?_
  refine j_istore_n (pc := 16) C (lv' := [(0, .ref (h 0)), (1, .int (zI 0)), (2, .int (zI (dIf (wg L lo hi su db M S) Dm L 0 0)))]) dX0_bestToLookAt_16 (by decide) [1, 2, 0] rfl ?_
  refine j_iconst (pc := 17) C dX0_bestToLookAt_17 ?_
  refine j_istore_n (pc := 18) C (lv' := [(0, .ref (h 0)), (1, .int (zI 0)), (2, .int (zI (dIf (wg L lo hi su db M S) Dm L 0 0))), (3, .int (zI 1))]) dX0_bestToLookAt_18 (by decide) [1, 2, 3, 0] rfl ?_
  refine J.cast (ws' := wG h c1 c2 K Dm L lo hi su db S dy li so sp tu ah (wg L lo hi su db M S)) (lv' := [(0, .ref (h 0)), (1, .int (zI (ag (fun x y => decide (dIf (wg L lo hi su db M S) Dm L x x < dIf (wg L lo hi su db M S) Dm L y y)) 1))), (2, .int (zI (dIf (wg L lo hi su db M S) Dm L (ag (fun x y => decide (dIf (wg L lo hi su db M S) Dm L x x < dIf (wg L lo hi su db M S) Dm L y y)) 1) (ag (fun x y => decide (dIf (wg L lo hi su db M S) Dm L x x < dIf (wg L lo hi su db M S) Dm L y y)) 1)))), (3, .int (zI 1))]) ?_ (by rfl) (by rfl) rfl
  refine j_up (fun i : Int => wG h c1 c2 K Dm L lo hi su db S dy li so sp tu ah (wg L lo hi su db M S)) (fun i : Int => [(0, .ref (h 0)), (1, .int (zI (ag (fun x y => decide (dIf (wg L lo hi su db M S) Dm L x x < dIf (wg L lo hi su db M S) Dm L y y)) i))), (2, .int (zI (dIf (wg L lo hi su db M S) Dm L (ag (fun x y => decide (dIf (wg L lo hi su db M S) Dm L x x < dIf (wg L lo hi su db M S) Dm L y y)) i) (ag (fun x y => decide (dIf (wg L lo hi su db M S) Dm L x x < dIf (wg L lo hi su db M S) Dm L y y)) i)))), (3, .int (zI i))]) (fun i : Int => True) 1 L (by omega) trivial ?_ ?_
  · intro i h0_19 h1_19 hI_19 hk_19
    try dsimp only at hI_19 hk_19 ⊢
    have g := ag_in (fun x y => decide (dIf (wg L lo hi su db M S) Dm L x x < dIf (wg L lo hi su db M S) Dm L y y)) i h0_19
    have q1 := dIf_in hL0 hL hf hB i i (by omega) (by omega) (by omega)
    have q2 := dIf_in hL0 hL hf hB (ag (fun x y => decide (dIf (wg L lo hi su db M S) Dm L x x < dIf (wg L lo hi su db M S) Dm L y y)) i) (ag (fun x y => decide (dIf (wg L lo hi su db M S) Dm L x x < dIf (wg L lo hi su db M S) Dm L y y)) i) (by omega) (by omega) (by omega)
    refine j_iload_n (pc := 19) C dX0_bestToLookAt_19 3 rfl ?_
    refine j_aload_n (pc := 20) C dX0_bestToLookAt_20 0 rfl ?_
    refine j_get (pc := 21) C (ref := "GrainSilo") (T := TX0) (N := 15) hin 0 rfl rfl 2 (by decide) (C.w 1 rfl) rfl rfl dX0_bestToLookAt_21 ?_
    refine j_icmp_ge (pc := 24) C 52 dX0_bestToLookAt_24 (by decide) ⟨by omega, by omega⟩ ⟨by omega, by omega⟩ (fun c_24 => absurd c_24 (by omega)) (fun c_24 => ?_)
    refine j_aload_n (pc := 27) C dX0_bestToLookAt_27 0 rfl ?_
    refine j_iload_n (pc := 28) C dX0_bestToLookAt_28 3 rfl ?_
    refine j_iload_n (pc := 29) C dX0_bestToLookAt_29 3 rfl ?_
    refine j_callI (pc := 30) C (As := [.int (zI i), .int (zI i)]) (rest := []) (kX0_doubtIfDrawn l D h c1 c2 c3 K Dm L lo hi su db S dy li so sp tu ah (wg L lo hi su db M S) i i (by omega) (by omega) (by omega) (by omega) (by omega) hf hB) (cwV 2 C.2.2.2.2.1 gX0_bestToLookAt_X0_doubtIfDrawn rfl rfl rfl (by decide +kernel) ⟨Nat.le_of_ble_eq_true rfl, Nat.le_of_ble_eq_true rfl⟩) 0 (ci := 0) rfl rfl rfl dX0_bestToLookAt_30 rfl rfl (Nat.le_of_ble_eq_true rfl) (by decide) ?_
    refine j_istore (pc := 33) C (lv' := [(0, .ref (h 0)), (1, .int (zI (ag (fun x y => decide (dIf (wg L lo hi su db M S) Dm L x x < dIf (wg L lo hi su db M S) Dm L y y)) i))), (2, .int (zI (dIf (wg L lo hi su db M S) Dm L (ag (fun x y => decide (dIf (wg L lo hi su db M S) Dm L x x < dIf (wg L lo hi su db M S) Dm L y y)) i) (ag (fun x y => decide (dIf (wg L lo hi su db M S) Dm L x x < dIf (wg L lo hi su db M S) Dm L y y)) i)))), (3, .int (zI i)), (4, .int (zI (dIf (wg L lo hi su db M S) Dm L i i)))]) dX0_bestToLookAt_33 (by decide) [1, 2, 3, 4, 0] rfl ?_
    refine j_iload (pc := 35) C dX0_bestToLookAt_35 4 rfl ?_
    refine j_iload_n (pc := 37) C dX0_bestToLookAt_37 2 rfl ?_
    refine j_icmp_ge (pc := 38) C 46 dX0_bestToLookAt_38 (by decide) ⟨by omega, by omega⟩ ⟨by omega, by omega⟩ (fun c_38 => ?_) (fun c_38 => ?_)
    · skip
      have e2 : ¬ dIf (wg L lo hi su db M S) Dm L i i < dIf (wg L lo hi su db M S) Dm L (ag (fun x y => decide (dIf (wg L lo hi su db M S) Dm L x x < dIf (wg L lo hi su db M S) Dm L y y)) i) (ag (fun x y => decide (dIf (wg L lo hi su db M S) Dm L x x < dIf (wg L lo hi su db M S) Dm L y y)) i) := by omega
      refine j_iinc (pc := 46) C (lv' := [(0, .ref (h 0)), (1, .int (zI (ag (fun x y => decide (dIf (wg L lo hi su db M S) Dm L x x < dIf (wg L lo hi su db M S) Dm L y y)) i))), (2, .int (zI (dIf (wg L lo hi su db M S) Dm L (ag (fun x y => decide (dIf (wg L lo hi su db M S) Dm L x x < dIf (wg L lo hi su db M S) Dm L y y)) i) (ag (fun x y => decide (dIf (wg L lo hi su db M S) Dm L x x < dIf (wg L lo hi su db M S) Dm L y y)) i)))), (3, .int (zI (i + 1))), (4, .int (zI (dIf (wg L lo hi su db M S) Dm L i i)))]) dX0_bestToLookAt_46 3 rfl (by decide) [1, 2, 3, 0, 4] rfl ?_
      refine j_goto (pc := 49) C 19 dX0_bestToLookAt_49 (by decide) ?_
      refine J.pick (lv' := [(0, .ref (h 0)), (1, .int (zI (ag (fun x y => decide (dIf (wg L lo hi su db M S) Dm L x x < dIf (wg L lo hi su db M S) Dm L y y)) i))), (2, .int (zI (dIf (wg L lo hi su db M S) Dm L (ag (fun x y => decide (dIf (wg L lo hi su db M S) Dm L x x < dIf (wg L lo hi su db M S) Dm L y y)) i) (ag (fun x y => decide (dIf (wg L lo hi su db M S) Dm L x x < dIf (wg L lo hi su db M S) Dm L y y)) i)))), (3, .int (zI (i + 1)))]) [0, 1, 2, 3] rfl ?_
      exact J.cast (hk_19 trivial) (by rfl) (by first | (rw [ag_up (fun x y => decide (dIf (wg L lo hi su db M S) Dm L x x < dIf (wg L lo hi su db M S) Dm L y y)) i h0_19, if_neg (fun q => e2 (of_decide_eq_true q))]) | (rw [ag_up (fun x y => decide (dIf (wg L lo hi su db M S) Dm L x x < dIf (wg L lo hi su db M S) Dm L y y)) i h0_19, if_pos (decide_eq_true e2)])) rfl
    · skip
      have e2 : dIf (wg L lo hi su db M S) Dm L i i < dIf (wg L lo hi su db M S) Dm L (ag (fun x y => decide (dIf (wg L lo hi su db M S) Dm L x x < dIf (wg L lo hi su db M S) Dm L y y)) i) (ag (fun x y => decide (dIf (wg L lo hi su db M S) Dm L x x < dIf (wg L lo hi su db M S) Dm L y y)) i) := by omega
      refine j_iload (pc := 41) C dX0_bestToLookAt_41 4 rfl ?_
      refine j_istore_n (pc := 43) C (lv' := [(0, .ref (h 0)), (1, .int (zI (ag (fun x y => decide (dIf (wg L lo hi su db M S) Dm L x x < dIf (wg L lo hi su db M S) Dm L y y)) i))), (2, .int (zI (dIf (wg L lo hi su db M S) Dm L i i))), (3, .int (zI i)), (4, .int (zI (dIf (wg L lo hi su db M S) Dm L i i)))]) dX0_bestToLookAt_43 (by decide) [1, 2, 0, 3, 4] rfl ?_
      refine j_iload_n (pc := 44) C dX0_bestToLookAt_44 3 rfl ?_
      refine j_istore_n (pc := 45) C (lv' := [(0, .ref (h 0)), (1, .int (zI i)), (2, .int (zI (dIf (wg L lo hi su db M S) Dm L i i))), (3, .int (zI i)), (4, .int (zI (dIf (wg L lo hi su db M S) Dm L i i)))]) dX0_bestToLookAt_45 (by decide) [1, 0, 2, 3, 4] rfl ?_
      refine j_iinc (pc := 46) C (lv' := [(0, .ref (h 0)), (1, .int (zI i)), (2, .int (zI (dIf (wg L lo hi su db M S) Dm L i i))), (3, .int (zI (i + 1))), (4, .int (zI (dIf (wg L lo hi su db M S) Dm L i i)))]) dX0_bestToLookAt_46 3 rfl (by decide) [1, 2, 3, 0, 4] rfl ?_
      refine j_goto (pc := 49) C 19 dX0_bestToLookAt_49 (by decide) ?_
      refine J.pick (lv' := [(0, .ref (h 0)), (1, .int (zI i)), (2, .int (zI (dIf (wg L lo hi su db M S) Dm L i i))), (3, .int (zI (i + 1)))]) [0, 1, 2, 3] rfl ?_
      exact J.cast (hk_19 trivial) (by rfl) (by first | (rw [ag_up (fun x y => decide (dIf (wg L lo hi su db M S) Dm L x x < dIf (wg L lo hi su db M S) Dm L y y)) i h0_19, if_neg (fun q => e2 (of_decide_eq_true q))]) | (rw [ag_up (fun x y => decide (dIf (wg L lo hi su db M S) Dm L x x < dIf (wg L lo hi su db M S) Dm L y y)) i h0_19, if_pos (decide_eq_true e2)])) rfl
  · intro hI_19
    try dsimp only at hI_19 ⊢
    refine j_iload_n (pc := 19) C dX0_bestToLookAt_19 3 rfl ?_
    refine j_aload_n (pc := 20) C dX0_bestToLookAt_20 0 rfl ?_
    refine j_get (pc := 21) C (ref := "GrainSilo") (T := TX0) (N := 15) hin 0 rfl rfl 2 (by decide) (C.w 1 rfl) rfl rfl dX0_bestToLookAt_21 ?_
    refine j_icmp_ge (pc := 24) C 52 dX0_bestToLookAt_24 (by decide) ⟨by omega, by omega⟩ ⟨by omega, by omega⟩ (fun c_24 => ?_) (fun c_24 => absurd c_24 (by omega))
    refine j_iload_n (pc := 52) C dX0_bestToLookAt_52 1 rfl ?_
    exact j_iret (pc := 53) C hr dX0_bestToLookAt_53 (by rfl) (by rfl) (by decide) (by decide)
set_option maxHeartbeats 4000000 in
set_option maxRecDepth 100000 in
theorem kX0_dampnessIn (l : Launch) (D : va_G) (h : Nat → Nat) (c1 c2 c3 : ClassId) (K Dm : Int → Int) (L : Int) (lo hi su db : Int → Int) (S dy li so sp : Int) (tu ah : Int → Int) (M : Int → Int → Int) (a b : Int) (hL0 : 0 ≤ L) (hL : L ≤ 12) (hf : ∀ j, 0 ≤ j → j < L → 0 ≤ Dm j ∧ Dm j ≤ 40) (h0 : 0 ≤ a) (h1 : a < L) (h2 : 1 ≤ b) (h3 : b ≤ 50) : cI l yX0_dampnessIn wsX0_dampnessIn ({ frames := 4, cells := 0, slots := 0, locals := 94 }) D (tyS c1 c2 c3) [.ref (h 0), .int (zI a), .int (zI b)] (wG h c1 c2 K Dm L lo hi su db S dy li so sp tu ah M) (wG h c1 c2 K Dm L lo hi su db S dy li so sp (dayT (mix Dm ah L) L tu b) (dayF (mix Dm ah L) L b) M) (zI ((dayF (mix Dm ah L) L b) a)) 0 0 := by
  refine cI.of (cc := cX0_dampnessIn) (maxL := 3) (ret := .int) (by decide) rfl (lv := [(0, .ref (h 0)), (1, .int (zI a)), (2, .int (zI b))]) [0, 1, 2] rfl (Nat.le_of_ble_eq_true rfl) ?_
  intro p e s m args below meth c A C hr
  have C : GC p s m args meth c cX0_dampnessIn 3 RX0 wsX0_dampnessIn D (tyS c1 c2 c3) A := C
  have hin : ∀ w ∈ wsX00, w ∈ wsX0_dampnessIn := fun _ h => List.mem_cons_of_mem _ (List.mem_append_left _ (List.mem_append_left _ (List.mem_append_right _ h)))
  have hfa : ∀ j, 0 ≤ j → j < L → 0 ≤ (mix Dm ah L) j ∧ (mix Dm ah L) j ≤ 40 := fun j j0 j1 => by rw [mix_lt _ _ _ _ j0 j1]; exact hf j j0 j1
  refine j_aload_n (pc := 0) C dX0_dampnessIn_0 0 rfl ?_
  refine j_iload_n (pc := 1) C dX0_dampnessIn_1 1 rfl ?_
  refine j_callV (pc := 2) C (As := [.int (zI a)]) (rest := []) (kX0_checkLayer l D h c1 c2 c3 K Dm L lo hi su db S dy li so sp tu ah M a (by omega) (by omega) (by omega)) (cwV 1 C.2.2.2.2.1 gX0_dampnessIn_X0_checkLayer rfl rfl rfl (by decide +kernel) ⟨Nat.le_of_ble_eq_true rfl, Nat.le_of_ble_eq_true rfl⟩) 0 (ci := 0) rfl rfl rfl dX0_dampnessIn_2 rfl rfl (Nat.le_of_ble_eq_true rfl) (by decide) ?_
  refine j_iload_n (pc := 5) C dX0_dampnessIn_5 2 rfl ?_
  refine j_callSV (pc := 6) C (As := [.int (zI b)]) (rest := []) (kX0_checkDays l D c1 c2 c3 b (by omega) (by omega)) (va_cwS 1 C.2.2.2.2.1 gX0_dampnessIn_X0_checkDays rfl rfl rfl (by decide +kernel) ⟨Nat.le_of_ble_eq_true rfl, Nat.le_of_ble_eq_true rfl⟩) dX0_dampnessIn_6 rfl rfl (Nat.le_of_ble_eq_true rfl) (by decide) ?_
  refine j_aload_n (pc := 9) C dX0_dampnessIn_9 0 rfl ?_
  refine j_callV (pc := 10) C (As := []) (rest := []) (kX0_copyDampnessAhead l D h c1 c2 c3 K Dm L lo hi su db S dy li so sp tu ah M  (by omega) (by omega)) (cwV 0 C.2.2.2.2.1 gX0_dampnessIn_X0_copyDampnessAhead rfl rfl rfl (by decide +kernel) ⟨Nat.le_of_ble_eq_true rfl, Nat.le_of_ble_eq_true rfl⟩) 0 (ci := 0) rfl rfl rfl dX0_dampnessIn_10 rfl rfl (Nat.le_of_ble_eq_true rfl) (by decide) ?_
  refine j_aload_n (pc := 13) C dX0_dampnessIn_13 0 rfl ?_
  refine j_aload_n (pc := 14) C dX0_dampnessIn_14 0 rfl ?_
  refine j_get (pc := 15) C (ref := "GrainSilo") (T := TX0) (N := 15) hin 0 rfl rfl 13 (by decide) (C.w 1 rfl) rfl rfl dX0_dampnessIn_15 ?_
  refine j_iload_n (pc := 18) C dX0_dampnessIn_18 2 rfl ?_
  refine j_callI (pc := 19) C (As := [.ref (h 8), .int (zI b)]) (rest := []) (kX0_letDaysGoBy_ah l D h c1 c2 c3 K Dm L lo hi su db S dy li so sp tu (mix Dm ah L) M b (by omega) (by omega) (by omega) (by omega) hfa) (cwV 2 C.2.2.2.2.1 gX0_dampnessIn_X0_letDaysGoBy rfl rfl rfl (by decide +kernel) ⟨Nat.le_of_ble_eq_true rfl, Nat.le_of_ble_eq_true rfl⟩) 0 (ci := 0) rfl rfl rfl dX0_dampnessIn_19 rfl rfl (Nat.le_of_ble_eq_true rfl) (by decide) ?_
  refine j_pop (pc := 22) C dX0_dampnessIn_22 rfl ?_
  refine j_aload_n (pc := 23) C dX0_dampnessIn_23 0 rfl ?_
  refine j_get (pc := 24) C (ref := "GrainSilo") (T := TX0) (N := 15) hin 0 rfl rfl 13 (by decide) (C.w 1 rfl) rfl rfl dX0_dampnessIn_24 ?_
  refine j_iload_n (pc := 27) C dX0_dampnessIn_27 1 rfl ?_
  refine j_iald (pc := 28) C 8 0 rfl rfl (by omega) (by omega) (by decide) dX0_dampnessIn_28 ?_
  exact j_iret (pc := 29) C hr dX0_dampnessIn_29 (by rfl) (by rfl) (by decide) (by decide)
set_option maxHeartbeats 4000000 in
set_option maxRecDepth 100000 in
theorem kX0_daysUntilEven (l : Launch) (D : va_G) (h : Nat → Nat) (c1 c2 c3 : ClassId) (K Dm : Int → Int) (L : Int) (lo hi su db : Int → Int) (S dy li so sp : Int) (tu ah : Int → Int) (M : Int → Int → Int) (hL0 : 0 ≤ L) (hL : L ≤ 12) (hf : ∀ j, 0 ≤ j → j < L → 0 ≤ Dm j ∧ Dm j ≤ 40) : cI l yX0_daysUntilEven wsX0_daysUntilEven ({ frames := 3, cells := 0, slots := 0, locals := 70 }) D (tyS c1 c2 c3) [.ref (h 0)] (wG h c1 c2 K Dm L lo hi su db S dy li so sp tu ah M) (wG h c1 c2 K Dm L lo hi su db S dy li so sp (dayT (mix Dm ah L) L tu (dEnd (fidx (fun j => decide (turnC (dayF (mix Dm ah L) L j) L = 0)) 201))) (dayF (mix Dm ah L) L (dEnd (fidx (fun j => decide (turnC (dayF (mix Dm ah L) L j) L = 0)) 201))) M) (zI (fidx (fun j => decide (turnC (dayF (mix Dm ah L) L j) L = 0)) 201)) 0 0 := by
  refine cI.of (cc := cX0_daysUntilEven) (maxL := 2) (ret := .int) (by decide) rfl (lv := [(0, .ref (h 0))]) [0] rfl (Nat.le_of_ble_eq_true rfl) ?_
  intro p e s m args below meth c A C hr
  have C : GC p s m args meth c cX0_daysUntilEven 2 RX0 wsX0_daysUntilEven D (tyS c1 c2 c3) A := C
  have hin : ∀ w ∈ wsX00, w ∈ wsX0_daysUntilEven := fun _ h => List.mem_cons_of_mem _ (List.mem_append_right _ h)
  have hfa : ∀ j, 0 ≤ j → j < L → 0 ≤ (mix Dm ah L) j ∧ (mix Dm ah L) j ≤ 40 := fun j j0 j1 => by rw [mix_lt _ _ _ _ j0 j1]; exact hf j j0 j1
  refine j_aload_n (pc := 0) C dX0_daysUntilEven_0 0 rfl ?_
  refine j_callV (pc := 1) C (As := []) (rest := []) (kX0_copyDampnessAhead l D h c1 c2 c3 K Dm L lo hi su db S dy li so sp tu ah M  (by omega) (by omega)) (cwV 0 C.2.2.2.2.1 gX0_daysUntilEven_X0_copyDampnessAhead rfl rfl rfl (by decide +kernel) ⟨Nat.le_of_ble_eq_true rfl, Nat.le_of_ble_eq_true rfl⟩) 0 (ci := 0) rfl rfl rfl dX0_daysUntilEven_1 rfl rfl (Nat.le_of_ble_eq_true rfl) (by decide) ?_
  refine j_iconst (pc := 4) C dX0_daysUntilEven_4 ?_
  refine j_istore_n (pc := 5) C (lv' := [(0, .ref (h 0)), (1, .int (zI 0))]) dX0_daysUntilEven_5 (by decide) [1, 0] rfl ?_
  refine J.cast (ws' := wG h c1 c2 K Dm L lo hi su db S dy li so sp (dayT (mix Dm ah L) L tu 0) (dayF (mix Dm ah L) L 0) M) (lv' := [(0, .ref (h 0)), (1, .int (zI 0))]) ?_ (by rfl) (by rfl) rfl
  refine j_up (fun i : Int => wG h c1 c2 K Dm L lo hi su db S dy li so sp (dayT (mix Dm ah L) L tu i) (dayF (mix Dm ah L) L i) M) (fun i : Int => [(0, .ref (h 0)), (1, .int (zI i))]) (fun i : Int => ∀ j, 0 ≤ j → j < i → ¬ turnC (dayF (mix Dm ah L) L j) L = 0) 0 201 (by decide) (fun j j0 j1 => absurd j1 (by omega)) ?_ ?_
  · intro i h0_6 h1_6 hI_6 hk_6
    try dsimp only at hI_6 hk_6 ⊢
    have z : 0 ≤ turnC (dayF (mix Dm ah L) L i) L ∧ turnC (dayF (mix Dm ah L) L i) L ≤ L - 0 := zc_le _ 0 L hL0
    refine j_iload_n (pc := 6) C dX0_daysUntilEven_6 1 rfl ?_
    refine j_sipush (pc := 7) C dX0_daysUntilEven_7 (by decide +kernel) ?_
    refine j_icmp_gt (pc := 10) C 32 dX0_daysUntilEven_10 (by decide) ⟨by omega, by omega⟩ ⟨by omega, by omega⟩ (fun c_10 => absurd c_10 (by omega)) (fun c_10 => ?_)
    refine j_aload_n (pc := 13) C dX0_daysUntilEven_13 0 rfl ?_
    refine j_aload_n (pc := 14) C dX0_daysUntilEven_14 0 rfl ?_
    refine j_get (pc := 15) C (ref := "GrainSilo") (T := TX0) (N := 15) hin 0 rfl rfl 13 (by decide) (C.w 1 rfl) rfl rfl dX0_daysUntilEven_15 ?_
    refine j_callI (pc := 18) C (As := [.ref (h 8)]) (rest := []) (kX0_letDayGoBy_ah l D h c1 c2 c3 K Dm L lo hi su db S dy li so sp (dayT (mix Dm ah L) L tu i) (dayF (mix Dm ah L) L i) M  (by omega) (by omega) (dayF_in hfa i)) (cwV 1 C.2.2.2.2.1 gX0_daysUntilEven_X0_letDayGoBy rfl rfl rfl (by decide +kernel) ⟨Nat.le_of_ble_eq_true rfl, Nat.le_of_ble_eq_true rfl⟩) 0 (ci := 0) rfl rfl rfl dX0_daysUntilEven_18 rfl rfl (Nat.le_of_ble_eq_true rfl) (by decide) ?_
    refine j_if_ne (pc := 21) C 26 dX0_daysUntilEven_21 (by decide) ⟨by omega, by omega⟩ (fun c_21 => ?_) (fun c_21 => ?_)
    · skip
      refine j_iinc (pc := 26) C (lv' := [(0, .ref (h 0)), (1, .int (zI (i + 1)))]) dX0_daysUntilEven_26 1 rfl (by decide) [1, 0] rfl ?_
      refine j_goto (pc := 29) C 6 dX0_daysUntilEven_29 (by decide) ?_
      exact J.cast (hk_6 (fun j j0 j1 => by rcases Int.lt_or_eq_of_le (show j ≤ i by omega) with q | q; exact hI_6 j j0 q; subst q; exact c_21)) (by rw [dayF_up (mix Dm ah L) L i h0_6, dayT_up (mix Dm ah L) L tu i h0_6]) (by rfl) rfl
    · skip
      refine j_iload_n (pc := 24) C dX0_daysUntilEven_24 1 rfl ?_
      exact j_iret (pc := 25) C hr dX0_daysUntilEven_25 (by rw [fidx_is h0_6 h1_6 (decide_eq_true c_21) (fun j j0 j1 => decide_eq_false (hI_6 j j0 j1))]) (by rw [fidx_is h0_6 h1_6 (decide_eq_true c_21) (fun j j0 j1 => decide_eq_false (hI_6 j j0 j1)), show dEnd i = i + 1 from if_neg (by omega), dayF_up (mix Dm ah L) L i h0_6, dayT_up (mix Dm ah L) L tu i h0_6]) (by decide) (by decide)
  · intro hI_6
    try dsimp only at hI_6 ⊢
    refine j_iload_n (pc := 6) C dX0_daysUntilEven_6 1 rfl ?_
    refine j_sipush (pc := 7) C dX0_daysUntilEven_7 (by decide +kernel) ?_
    refine j_icmp_gt (pc := 10) C 32 dX0_daysUntilEven_10 (by decide) ⟨by omega, by omega⟩ ⟨by omega, by omega⟩ (fun c_10 => ?_) (fun c_10 => absurd c_10 (by omega))
    refine j_iconst (pc := 32) C dX0_daysUntilEven_32 ?_
    exact j_iret (pc := 33) C hr dX0_daysUntilEven_33 (by rw [fidx_no (p := (fun j => decide (turnC (dayF (mix Dm ah L) L j) L = 0))) (L := 201) (by omega) (fun j j0 j1 => decide_eq_false (hI_6 j j0 j1))]) (by rw [fidx_no (p := (fun j => decide (turnC (dayF (mix Dm ah L) L j) L = 0))) (L := 201) (by omega) (fun j j0 j1 => decide_eq_false (hI_6 j j0 j1))]; rfl) (by decide) (by decide)
set_option maxHeartbeats 4000000 in
set_option maxRecDepth 100000 in
theorem kX0_digest (l : Launch) (D : va_G) (h : Nat → Nat) (c1 c2 c3 : ClassId) (K Dm : Int → Int) (L : Int) (lo hi su db : Int → Int) (S dy li so sp : Int) (tu ah : Int → Int) (M : Int → Int → Int) (hok : okS Dm L lo hi su db S) (l0 : 0 ≤ li) (l1 : li ≤ 40) : cL l yX0_digest wsX0_digest ({ frames := 3, cells := 0, slots := 0, locals := 69 }) D (tyS c1 c2 c3) [.ref (h 0)] (wG h c1 c2 K Dm L lo hi su db S dy li so sp tu ah M) (wG h c1 c2 K Dm L lo hi su db S dy li so sp tu ah (wg L lo hi su db M S)) (dg (dgS lo hi su db) (dg (dgL K Dm (wg L lo hi su db M S)) (((((((((1907 * 31 + ((zI L).toInt64)) * 31 + ((zI S).toInt64)) * 31 + ((zI dy).toInt64)) * 31 + ((zI li).toInt64)) * 31 + ((zI so).toInt64)) * 31 + ((zI sp).toInt64)) * 31 + ((zI (dNow (wg L lo hi su db M S) L)).toInt64)) * 31 + ((zI (nDry (wg L lo hi su db M S) li L)).toInt64)) * 31 + ((zI (nDamp (wg L lo hi su db M S) li L)).toInt64)) L) S) 0 0 := by
  refine cL.of (cc := cX0_digest) (maxL := 3) (by decide) rfl (lv := [(0, .ref (h 0))]) [0] rfl (Nat.le_of_ble_eq_true rfl) ?_
  intro p e s m args below meth c A C hr
  have C : GC p s m args meth c cX0_digest 3 RX0 wsX0_digest D (tyS c1 c2 c3) A := C
  have hin : ∀ w ∈ wsX00, w ∈ wsX0_digest := fun _ h => List.mem_cons_of_mem _ (List.mem_append_right _ h)
  obtain ⟨⟨hL0, hL⟩, ⟨hS0, hS⟩, hf, hs⟩ := id hok
  have w := wg_ok hok M S hS0 (Int.le_refl _)
  have hB := Wok_B hL hf w
  refine j_aload_n (pc := 0) C dX0_digest_0 0 rfl ?_
  refine j_callV (pc := 1) C (As := []) (rest := []) (kX0_weighSamples l D h c1 c2 c3 K Dm L lo hi su db S dy li so sp tu ah M  hok) (cwV 0 C.2.2.2.2.1 gX0_digest_X0_weighSamples rfl rfl rfl (by decide +kernel) ⟨Nat.le_of_ble_eq_true rfl, Nat.le_of_ble_eq_true rfl⟩) 0 (ci := 0) rfl rfl rfl dX0_digest_1 rfl rfl (Nat.le_of_ble_eq_true rfl) (by decide) ?_
  refine j_ldc2 (pc := 4) C (C.w 1 rfl) dX0_digest_4 ?_
  refine j_lstore_n (pc := 7) C (lv' := [(0, .ref (h 0)), (1, .long 1907)]) dX0_digest_7 (by decide) [1, 0] rfl ?_
  refine j_lload_n (pc := 8) C dX0_digest_8 1 rfl ?_
  refine j_aload_n (pc := 9) C dX0_digest_9 0 rfl ?_
  refine j_get (pc := 10) C (ref := "GrainSilo") (T := TX0) (N := 15) hin 0 rfl rfl 2 (by decide) (C.w 2 rfl) rfl rfl dX0_digest_10 ?_
  refine j_i2l (pc := 13) C dX0_digest_13 ?_
  refine j_callSL (pc := 14) C (As := [.long 1907, .long ((zI L).toInt64)]) (rest := []) (kX0_digestOf l D c1 c2 c3 1907 ((zI L).toInt64) ) (va_cwS 2 C.2.2.2.2.1 gX0_digest_X0_digestOf rfl rfl rfl (by decide +kernel) ⟨Nat.le_of_ble_eq_true rfl, Nat.le_of_ble_eq_true rfl⟩) dX0_digest_14 rfl rfl (Nat.le_of_ble_eq_true rfl) (by decide) ?_
  refine j_lstore_n (pc := 17) C (lv' := [(0, .ref (h 0)), (1, .long (1907 * 31 + ((zI L).toInt64)))]) dX0_digest_17 (by decide) [1, 0] rfl ?_
  refine j_lload_n (pc := 18) C dX0_digest_18 1 rfl ?_
  refine j_aload_n (pc := 19) C dX0_digest_19 0 rfl ?_
  refine j_get (pc := 20) C (ref := "GrainSilo") (T := TX0) (N := 15) hin 0 rfl rfl 7 (by decide) (C.w 3 rfl) rfl rfl dX0_digest_20 ?_
  refine j_i2l (pc := 23) C dX0_digest_23 ?_
  refine j_callSL (pc := 24) C (As := [.long (1907 * 31 + ((zI L).toInt64)), .long ((zI S).toInt64)]) (rest := []) (kX0_digestOf l D c1 c2 c3 (1907 * 31 + ((zI L).toInt64)) ((zI S).toInt64) ) (va_cwS 2 C.2.2.2.2.1 gX0_digest_X0_digestOf rfl rfl rfl (by decide +kernel) ⟨Nat.le_of_ble_eq_true rfl, Nat.le_of_ble_eq_true rfl⟩) dX0_digest_24 rfl rfl (Nat.le_of_ble_eq_true rfl) (by decide) ?_
  refine j_lstore_n (pc := 27) C (lv' := [(0, .ref (h 0)), (1, .long ((1907 * 31 + ((zI L).toInt64)) * 31 + ((zI S).toInt64)))]) dX0_digest_27 (by decide) [1, 0] rfl ?_
  refine j_lload_n (pc := 28) C dX0_digest_28 1 rfl ?_
  refine j_aload_n (pc := 29) C dX0_digest_29 0 rfl ?_
  refine j_get (pc := 30) C (ref := "GrainSilo") (T := TX0) (N := 15) hin 0 rfl rfl 8 (by decide) (C.w 4 rfl) rfl rfl dX0_digest_30 ?_
  refine j_i2l (pc := 33) C dX0_digest_33 ?_
  refine j_callSL (pc := 34) C (As := [.long ((1907 * 31 + ((zI L).toInt64)) * 31 + ((zI S).toInt64)), .long ((zI dy).toInt64)]) (rest := []) (kX0_digestOf l D c1 c2 c3 ((1907 * 31 + ((zI L).toInt64)) * 31 + ((zI S).toInt64)) ((zI dy).toInt64) ) (va_cwS 2 C.2.2.2.2.1 gX0_digest_X0_digestOf rfl rfl rfl (by decide +kernel) ⟨Nat.le_of_ble_eq_true rfl, Nat.le_of_ble_eq_true rfl⟩) dX0_digest_34 rfl rfl (Nat.le_of_ble_eq_true rfl) (by decide) ?_
  refine j_lstore_n (pc := 37) C (lv' := [(0, .ref (h 0)), (1, .long (((1907 * 31 + ((zI L).toInt64)) * 31 + ((zI S).toInt64)) * 31 + ((zI dy).toInt64)))]) dX0_digest_37 (by decide) [1, 0] rfl ?_
  refine j_lload_n (pc := 38) C dX0_digest_38 1 rfl ?_
  refine j_aload_n (pc := 39) C dX0_digest_39 0 rfl ?_
  refine j_get (pc := 40) C (ref := "GrainSilo") (T := TX0) (N := 15) hin 0 rfl rfl 9 (by decide) (C.w 5 rfl) rfl rfl dX0_digest_40 ?_
  refine j_i2l (pc := 43) C dX0_digest_43 ?_
  refine j_callSL (pc := 44) C (As := [.long (((1907 * 31 + ((zI L).toInt64)) * 31 + ((zI S).toInt64)) * 31 + ((zI dy).toInt64)), .long ((zI li).toInt64)]) (rest := []) (kX0_digestOf l D c1 c2 c3 (((1907 * 31 + ((zI L).toInt64)) * 31 + ((zI S).toInt64)) * 31 + ((zI dy).toInt64)) ((zI li).toInt64) ) (va_cwS 2 C.2.2.2.2.1 gX0_digest_X0_digestOf rfl rfl rfl (by decide +kernel) ⟨Nat.le_of_ble_eq_true rfl, Nat.le_of_ble_eq_true rfl⟩) dX0_digest_44 rfl rfl (Nat.le_of_ble_eq_true rfl) (by decide) ?_
  refine j_lstore_n (pc := 47) C (lv' := [(0, .ref (h 0)), (1, .long ((((1907 * 31 + ((zI L).toInt64)) * 31 + ((zI S).toInt64)) * 31 + ((zI dy).toInt64)) * 31 + ((zI li).toInt64)))]) dX0_digest_47 (by decide) [1, 0] rfl ?_
  refine j_lload_n (pc := 48) C dX0_digest_48 1 rfl ?_
  refine j_aload_n (pc := 49) C dX0_digest_49 0 rfl ?_
  refine j_get (pc := 50) C (ref := "GrainSilo") (T := TX0) (N := 15) hin 0 rfl rfl 10 (by decide) (C.w 6 rfl) rfl rfl dX0_digest_50 ?_
  refine j_i2l (pc := 53) C dX0_digest_53 ?_
  refine j_callSL (pc := 54) C (As := [.long ((((1907 * 31 + ((zI L).toInt64)) * 31 + ((zI S).toInt64)) * 31 + ((zI dy).toInt64)) * 31 + ((zI li).toInt64)), .long ((zI so).toInt64)]) (rest := []) (kX0_digestOf l D c1 c2 c3 ((((1907 * 31 + ((zI L).toInt64)) * 31 + ((zI S).toInt64)) * 31 + ((zI dy).toInt64)) * 31 + ((zI li).toInt64)) ((zI so).toInt64) ) (va_cwS 2 C.2.2.2.2.1 gX0_digest_X0_digestOf rfl rfl rfl (by decide +kernel) ⟨Nat.le_of_ble_eq_true rfl, Nat.le_of_ble_eq_true rfl⟩) dX0_digest_54 rfl rfl (Nat.le_of_ble_eq_true rfl) (by decide) ?_
  refine j_lstore_n (pc := 57) C (lv' := [(0, .ref (h 0)), (1, .long (((((1907 * 31 + ((zI L).toInt64)) * 31 + ((zI S).toInt64)) * 31 + ((zI dy).toInt64)) * 31 + ((zI li).toInt64)) * 31 + ((zI so).toInt64)))]) dX0_digest_57 (by decide) [1, 0] rfl ?_
  refine j_lload_n (pc := 58) C dX0_digest_58 1 rfl ?_
  refine j_aload_n (pc := 59) C dX0_digest_59 0 rfl ?_
  refine j_get (pc := 60) C (ref := "GrainSilo") (T := TX0) (N := 15) hin 0 rfl rfl 11 (by decide) (C.w 7 rfl) rfl rfl dX0_digest_60 ?_
  refine j_i2l (pc := 63) C dX0_digest_63 ?_
  refine j_callSL (pc := 64) C (As := [.long (((((1907 * 31 + ((zI L).toInt64)) * 31 + ((zI S).toInt64)) * 31 + ((zI dy).toInt64)) * 31 + ((zI li).toInt64)) * 31 + ((zI so).toInt64)), .long ((zI sp).toInt64)]) (rest := []) (kX0_digestOf l D c1 c2 c3 (((((1907 * 31 + ((zI L).toInt64)) * 31 + ((zI S).toInt64)) * 31 + ((zI dy).toInt64)) * 31 + ((zI li).toInt64)) * 31 + ((zI so).toInt64)) ((zI sp).toInt64) ) (va_cwS 2 C.2.2.2.2.1 gX0_digest_X0_digestOf rfl rfl rfl (by decide +kernel) ⟨Nat.le_of_ble_eq_true rfl, Nat.le_of_ble_eq_true rfl⟩) dX0_digest_64 rfl rfl (Nat.le_of_ble_eq_true rfl) (by decide) ?_
  refine j_lstore_n (pc := 67) C (lv' := [(0, .ref (h 0)), (1, .long ((((((1907 * 31 + ((zI L).toInt64)) * 31 + ((zI S).toInt64)) * 31 + ((zI dy).toInt64)) * 31 + ((zI li).toInt64)) * 31 + ((zI so).toInt64)) * 31 + ((zI sp).toInt64)))]) dX0_digest_67 (by decide) [1, 0] rfl ?_
  refine j_lload_n (pc := 68) C dX0_digest_68 1 rfl ?_
  refine j_aload_n (pc := 69) C dX0_digest_69 0 rfl ?_
  refine j_callI (pc := 70) C (As := []) (rest := [.long ((((((1907 * 31 + ((zI L).toInt64)) * 31 + ((zI S).toInt64)) * 31 + ((zI dy).toInt64)) * 31 + ((zI li).toInt64)) * 31 + ((zI so).toInt64)) * 31 + ((zI sp).toInt64))]) (kX0_doubtNow l D h c1 c2 c3 K Dm L lo hi su db S dy li so sp tu ah (wg L lo hi su db M S)  (by omega) (by omega)) (cwV 0 C.2.2.2.2.1 gX0_digest_X0_doubtNow rfl rfl rfl (by decide +kernel) ⟨Nat.le_of_ble_eq_true rfl, Nat.le_of_ble_eq_true rfl⟩) 0 (ci := 0) rfl rfl rfl dX0_digest_70 rfl rfl (Nat.le_of_ble_eq_true rfl) (by decide) ?_
  refine j_i2l (pc := 73) C dX0_digest_73 ?_
  refine j_callSL (pc := 74) C (As := [.long ((((((1907 * 31 + ((zI L).toInt64)) * 31 + ((zI S).toInt64)) * 31 + ((zI dy).toInt64)) * 31 + ((zI li).toInt64)) * 31 + ((zI so).toInt64)) * 31 + ((zI sp).toInt64)), .long ((zI (dNow (wg L lo hi su db M S) L)).toInt64)]) (rest := []) (kX0_digestOf l D c1 c2 c3 ((((((1907 * 31 + ((zI L).toInt64)) * 31 + ((zI S).toInt64)) * 31 + ((zI dy).toInt64)) * 31 + ((zI li).toInt64)) * 31 + ((zI so).toInt64)) * 31 + ((zI sp).toInt64)) ((zI (dNow (wg L lo hi su db M S) L)).toInt64) ) (va_cwS 2 C.2.2.2.2.1 gX0_digest_X0_digestOf rfl rfl rfl (by decide +kernel) ⟨Nat.le_of_ble_eq_true rfl, Nat.le_of_ble_eq_true rfl⟩) dX0_digest_74 rfl rfl (Nat.le_of_ble_eq_true rfl) (by decide) ?_
  refine j_lstore_n (pc := 77) C (lv' := [(0, .ref (h 0)), (1, .long (((((((1907 * 31 + ((zI L).toInt64)) * 31 + ((zI S).toInt64)) * 31 + ((zI dy).toInt64)) * 31 + ((zI li).toInt64)) * 31 + ((zI so).toInt64)) * 31 + ((zI sp).toInt64)) * 31 + ((zI (dNow (wg L lo hi su db M S) L)).toInt64)))]) dX0_digest_77 (by decide) [1, 0] rfl ?_
  refine j_lload_n (pc := 78) C dX0_digest_78 1 rfl ?_
  refine j_aload_n (pc := 79) C dX0_digest_79 0 rfl ?_
  refine j_callI (pc := 80) C (As := []) (rest := [.long (((((((1907 * 31 + ((zI L).toInt64)) * 31 + ((zI S).toInt64)) * 31 + ((zI dy).toInt64)) * 31 + ((zI li).toInt64)) * 31 + ((zI so).toInt64)) * 31 + ((zI sp).toInt64)) * 31 + ((zI (dNow (wg L lo hi su db M S) L)).toInt64))]) (kX0_countSurelyDry l D h c1 c2 c3 K Dm L lo hi su db S dy li so sp tu ah (wg L lo hi su db M S)  (by omega) (by omega) (by omega) (by omega) hB) (cwV 0 C.2.2.2.2.1 gX0_digest_X0_countSurelyDry rfl rfl rfl (by decide +kernel) ⟨Nat.le_of_ble_eq_true rfl, Nat.le_of_ble_eq_true rfl⟩) 0 (ci := 0) rfl rfl rfl dX0_digest_80 rfl rfl (Nat.le_of_ble_eq_true rfl) (by decide) ?_
  refine j_i2l (pc := 83) C dX0_digest_83 ?_
  refine j_callSL (pc := 84) C (As := [.long (((((((1907 * 31 + ((zI L).toInt64)) * 31 + ((zI S).toInt64)) * 31 + ((zI dy).toInt64)) * 31 + ((zI li).toInt64)) * 31 + ((zI so).toInt64)) * 31 + ((zI sp).toInt64)) * 31 + ((zI (dNow (wg L lo hi su db M S) L)).toInt64)), .long ((zI (nDry (wg L lo hi su db M S) li L)).toInt64)]) (rest := []) (kX0_digestOf l D c1 c2 c3 (((((((1907 * 31 + ((zI L).toInt64)) * 31 + ((zI S).toInt64)) * 31 + ((zI dy).toInt64)) * 31 + ((zI li).toInt64)) * 31 + ((zI so).toInt64)) * 31 + ((zI sp).toInt64)) * 31 + ((zI (dNow (wg L lo hi su db M S) L)).toInt64)) ((zI (nDry (wg L lo hi su db M S) li L)).toInt64) ) (va_cwS 2 C.2.2.2.2.1 gX0_digest_X0_digestOf rfl rfl rfl (by decide +kernel) ⟨Nat.le_of_ble_eq_true rfl, Nat.le_of_ble_eq_true rfl⟩) dX0_digest_84 rfl rfl (Nat.le_of_ble_eq_true rfl) (by decide) ?_
  refine j_lstore_n (pc := 87) C (lv' := [(0, .ref (h 0)), (1, .long ((((((((1907 * 31 + ((zI L).toInt64)) * 31 + ((zI S).toInt64)) * 31 + ((zI dy).toInt64)) * 31 + ((zI li).toInt64)) * 31 + ((zI so).toInt64)) * 31 + ((zI sp).toInt64)) * 31 + ((zI (dNow (wg L lo hi su db M S) L)).toInt64)) * 31 + ((zI (nDry (wg L lo hi su db M S) li L)).toInt64)))]) dX0_digest_87 (by decide) [1, 0] rfl ?_
  refine j_lload_n (pc := 88) C dX0_digest_88 1 rfl ?_
  refine j_aload_n (pc := 89) C dX0_digest_89 0 rfl ?_
  refine j_callI (pc := 90) C (As := []) (rest := [.long ((((((((1907 * 31 + ((zI L).toInt64)) * 31 + ((zI S).toInt64)) * 31 + ((zI dy).toInt64)) * 31 + ((zI li).toInt64)) * 31 + ((zI so).toInt64)) * 31 + ((zI sp).toInt64)) * 31 + ((zI (dNow (wg L lo hi su db M S) L)).toInt64)) * 31 + ((zI (nDry (wg L lo hi su db M S) li L)).toInt64))]) (kX0_countSurelyDamp l D h c1 c2 c3 K Dm L lo hi su db S dy li so sp tu ah (wg L lo hi su db M S)  (by omega) (by omega) (by omega) (by omega) hB) (cwV 0 C.2.2.2.2.1 gX0_digest_X0_countSurelyDamp rfl rfl rfl (by decide +kernel) ⟨Nat.le_of_ble_eq_true rfl, Nat.le_of_ble_eq_true rfl⟩) 0 (ci := 0) rfl rfl rfl dX0_digest_90 rfl rfl (Nat.le_of_ble_eq_true rfl) (by decide) ?_
  refine j_i2l (pc := 93) C dX0_digest_93 ?_
  refine j_callSL (pc := 94) C (As := [.long ((((((((1907 * 31 + ((zI L).toInt64)) * 31 + ((zI S).toInt64)) * 31 + ((zI dy).toInt64)) * 31 + ((zI li).toInt64)) * 31 + ((zI so).toInt64)) * 31 + ((zI sp).toInt64)) * 31 + ((zI (dNow (wg L lo hi su db M S) L)).toInt64)) * 31 + ((zI (nDry (wg L lo hi su db M S) li L)).toInt64)), .long ((zI (nDamp (wg L lo hi su db M S) li L)).toInt64)]) (rest := []) (kX0_digestOf l D c1 c2 c3 ((((((((1907 * 31 + ((zI L).toInt64)) * 31 + ((zI S).toInt64)) * 31 + ((zI dy).toInt64)) * 31 + ((zI li).toInt64)) * 31 + ((zI so).toInt64)) * 31 + ((zI sp).toInt64)) * 31 + ((zI (dNow (wg L lo hi su db M S) L)).toInt64)) * 31 + ((zI (nDry (wg L lo hi su db M S) li L)).toInt64)) ((zI (nDamp (wg L lo hi su db M S) li L)).toInt64) ) (va_cwS 2 C.2.2.2.2.1 gX0_digest_X0_digestOf rfl rfl rfl (by decide +kernel) ⟨Nat.le_of_ble_eq_true rfl, Nat.le_of_ble_eq_true rfl⟩) dX0_digest_94 rfl rfl (Nat.le_of_ble_eq_true rfl) (by decide) ?_
  refine j_lstore_n (pc := 97) C (lv' := [(0, .ref (h 0)), (1, .long (((((((((1907 * 31 + ((zI L).toInt64)) * 31 + ((zI S).toInt64)) * 31 + ((zI dy).toInt64)) * 31 + ((zI li).toInt64)) * 31 + ((zI so).toInt64)) * 31 + ((zI sp).toInt64)) * 31 + ((zI (dNow (wg L lo hi su db M S) L)).toInt64)) * 31 + ((zI (nDry (wg L lo hi su db M S) li L)).toInt64)) * 31 + ((zI (nDamp (wg L lo hi su db M S) li L)).toInt64)))]) dX0_digest_97 (by decide) [1, 0] rfl ?_
  refine j_aload_n (pc := 98) C dX0_digest_98 0 rfl ?_
  refine j_lload_n (pc := 99) C dX0_digest_99 1 rfl ?_
  refine j_callL (pc := 100) C (As := [.long (((((((((1907 * 31 + ((zI L).toInt64)) * 31 + ((zI S).toInt64)) * 31 + ((zI dy).toInt64)) * 31 + ((zI li).toInt64)) * 31 + ((zI so).toInt64)) * 31 + ((zI sp).toInt64)) * 31 + ((zI (dNow (wg L lo hi su db M S) L)).toInt64)) * 31 + ((zI (nDry (wg L lo hi su db M S) li L)).toInt64)) * 31 + ((zI (nDamp (wg L lo hi su db M S) li L)).toInt64))]) (rest := []) (kX0_digestOfLayers l D h c1 c2 c3 K Dm L lo hi su db S dy li so sp tu ah (wg L lo hi su db M S) (((((((((1907 * 31 + ((zI L).toInt64)) * 31 + ((zI S).toInt64)) * 31 + ((zI dy).toInt64)) * 31 + ((zI li).toInt64)) * 31 + ((zI so).toInt64)) * 31 + ((zI sp).toInt64)) * 31 + ((zI (dNow (wg L lo hi su db M S) L)).toInt64)) * 31 + ((zI (nDry (wg L lo hi su db M S) li L)).toInt64)) * 31 + ((zI (nDamp (wg L lo hi su db M S) li L)).toInt64)) (by omega) (by omega)) (cwV 1 C.2.2.2.2.1 gX0_digest_X0_digestOfLayers rfl rfl rfl (by decide +kernel) ⟨Nat.le_of_ble_eq_true rfl, Nat.le_of_ble_eq_true rfl⟩) 0 (ci := 0) rfl rfl rfl dX0_digest_100 rfl rfl (Nat.le_of_ble_eq_true rfl) (by decide) ?_
  refine j_lstore_n (pc := 103) C (lv' := [(0, .ref (h 0)), (1, .long (dg (dgL K Dm (wg L lo hi su db M S)) (((((((((1907 * 31 + ((zI L).toInt64)) * 31 + ((zI S).toInt64)) * 31 + ((zI dy).toInt64)) * 31 + ((zI li).toInt64)) * 31 + ((zI so).toInt64)) * 31 + ((zI sp).toInt64)) * 31 + ((zI (dNow (wg L lo hi su db M S) L)).toInt64)) * 31 + ((zI (nDry (wg L lo hi su db M S) li L)).toInt64)) * 31 + ((zI (nDamp (wg L lo hi su db M S) li L)).toInt64)) L))]) dX0_digest_103 (by decide) [1, 0] rfl ?_
  refine j_aload_n (pc := 104) C dX0_digest_104 0 rfl ?_
  refine j_lload_n (pc := 105) C dX0_digest_105 1 rfl ?_
  refine j_callL (pc := 106) C (As := [.long (dg (dgL K Dm (wg L lo hi su db M S)) (((((((((1907 * 31 + ((zI L).toInt64)) * 31 + ((zI S).toInt64)) * 31 + ((zI dy).toInt64)) * 31 + ((zI li).toInt64)) * 31 + ((zI so).toInt64)) * 31 + ((zI sp).toInt64)) * 31 + ((zI (dNow (wg L lo hi su db M S) L)).toInt64)) * 31 + ((zI (nDry (wg L lo hi su db M S) li L)).toInt64)) * 31 + ((zI (nDamp (wg L lo hi su db M S) li L)).toInt64)) L)]) (rest := []) (kX0_digestOfSamples l D h c1 c2 c3 K Dm L lo hi su db S dy li so sp tu ah (wg L lo hi su db M S) (dg (dgL K Dm (wg L lo hi su db M S)) (((((((((1907 * 31 + ((zI L).toInt64)) * 31 + ((zI S).toInt64)) * 31 + ((zI dy).toInt64)) * 31 + ((zI li).toInt64)) * 31 + ((zI so).toInt64)) * 31 + ((zI sp).toInt64)) * 31 + ((zI (dNow (wg L lo hi su db M S) L)).toInt64)) * 31 + ((zI (nDry (wg L lo hi su db M S) li L)).toInt64)) * 31 + ((zI (nDamp (wg L lo hi su db M S) li L)).toInt64)) L) (by omega) (by omega)) (cwV 1 C.2.2.2.2.1 gX0_digest_X0_digestOfSamples rfl rfl rfl (by decide +kernel) ⟨Nat.le_of_ble_eq_true rfl, Nat.le_of_ble_eq_true rfl⟩) 0 (ci := 0) rfl rfl rfl dX0_digest_106 rfl rfl (Nat.le_of_ble_eq_true rfl) (by decide) ?_
  exact j_lret (pc := 109) C hr dX0_digest_109 (by rfl) (by rfl) (by decide) (by decide)
set_option maxHeartbeats 4000000 in
set_option maxRecDepth 100000 in
theorem kX0_meanDampness (l : Launch) (D : va_G) (h : Nat → Nat) (c1 c2 c3 : ClassId) (K Dm : Int → Int) (L : Int) (lo hi su db : Int → Int) (S dy li so sp : Int) (tu ah : Int → Int) (M : Int → Int → Int) (hL0 : 0 ≤ L) (hL : L ≤ 12) (hf : ∀ j, 0 ≤ j → j < L → 0 ≤ Dm j ∧ Dm j ≤ 40) : cD l yX0_meanDampness wsX0_meanDampness ({ frames := 1, cells := 0, slots := 0, locals := 24 }) D (tyS c1 c2 c3) [.ref (h 0)] (wG h c1 c2 K Dm L lo hi su db S dy li so sp tu ah M) (wG h c1 c2 K Dm L lo hi su db S dy li so sp tu ah M) (if L = 0 then FP.dconst0 else FP.ddiv (FP.i2d (zI (zs Dm 0 (L - 1 + 1)))) (FP.i2d (zI L))) 0 0 := by
  refine cD.of (cc := cX0_meanDampness) (maxL := 1) (by decide) rfl (lv := [(0, .ref (h 0))]) [0] rfl (Nat.le_of_ble_eq_true rfl) ?_
  intro p e s m args below meth c A C hr
  have C : GC p s m args meth c cX0_meanDampness 1 RX0 wsX0_meanDampness D (tyS c1 c2 c3) A := C
  have hin : ∀ w ∈ wsX00, w ∈ wsX0_meanDampness := fun _ h => List.mem_cons_of_mem _ (List.mem_append_right _ h)
  refine j_aload_n (pc := 0) C dX0_meanDampness_0 0 rfl ?_
  refine j_get (pc := 1) C (ref := "GrainSilo") (T := TX0) (N := 15) hin 0 rfl rfl 2 (by decide) (C.w 1 rfl) rfl rfl dX0_meanDampness_1 ?_
  refine j_if_ne (pc := 4) C 9 dX0_meanDampness_4 (by decide) ⟨by omega, by omega⟩ (fun c_4 => ?_) (fun c_4 => ?_)
  · skip
    refine j_aload_n (pc := 9) C dX0_meanDampness_9 0 rfl ?_
    refine j_iconst (pc := 10) C dX0_meanDampness_10 ?_
    refine j_aload_n (pc := 11) C dX0_meanDampness_11 0 rfl ?_
    refine j_get (pc := 12) C (ref := "GrainSilo") (T := TX0) (N := 15) hin 0 rfl rfl 2 (by decide) (C.w 1 rfl) rfl rfl dX0_meanDampness_12 ?_
    refine j_iconst (pc := 15) C dX0_meanDampness_15 ?_
    refine j_isub (pc := 16) C dX0_meanDampness_16 ?_
    refine j_callI (pc := 17) C (As := [.int (zI 0), .int (zI (L - 1))]) (rest := []) (kX0_sumNow l D h c1 c2 c3 K Dm L lo hi su db S dy li so sp tu ah M 0 (L - 1) (by omega) (by omega) (by omega)) (cwV 2 C.2.2.2.2.1 gX0_meanDampness_X0_sumNow rfl rfl rfl (by decide +kernel) ⟨Nat.le_of_ble_eq_true rfl, Nat.le_of_ble_eq_true rfl⟩) 0 (ci := 0) rfl rfl rfl dX0_meanDampness_17 rfl rfl (Nat.le_of_ble_eq_true rfl) (by decide) ?_
    refine j_i2d (pc := 20) C dX0_meanDampness_20 ?_
    refine j_aload_n (pc := 21) C dX0_meanDampness_21 0 rfl ?_
    refine j_get (pc := 22) C (ref := "GrainSilo") (T := TX0) (N := 15) hin 0 rfl rfl 2 (by decide) (C.w 1 rfl) rfl rfl dX0_meanDampness_22 ?_
    refine j_i2d (pc := 25) C dX0_meanDampness_25 ?_
    have z := zs_bnd hf 0 (L - 1 + 1) (by omega) (by omega) (by omega)
    refine j_ddiv (pc := 26) C dX0_meanDampness_26 (no_nan (by omega) (by omega) (by omega) (by omega)) ?_
    exact j_dret (pc := 27) C hr dX0_meanDampness_27 (by rw [if_neg c_4]) (by rfl) (by decide) (by decide)
  · skip
    refine j_dconst0 (pc := 7) C dX0_meanDampness_7 ?_
    exact j_dret (pc := 8) C hr dX0_meanDampness_8 (by rw [if_pos c_4]) (by rfl) (by decide) (by decide)
