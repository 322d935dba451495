/-! ===== GrainSiloModel: its face ===== -/
set_option maxHeartbeats 4000000 in
set_option maxRecDepth 100000 in
theorem kX1_fill (l : Launch) (D : va_G) (h : Nat → Nat) (c1 c2 c3 : ClassId) (th L : Int) (K Dm : Int → Int) (S : Int) (lo hi su db : Int → Int) (dy li so sp : Int) (X : Int → Int → Int) (ke se : Int → Int) (a b : Int) (h0 : 0 ≤ a) (h1 : a ≤ 4) (h2 : 0 ≤ b) (h3 : b ≤ 40) (hL0 : 0 ≤ L) (hL : L < 12) : cI l yX1_fill wsX1_fill ({ frames := 1, cells := 0, slots := 0, locals := 22 }) D (tyS c1 c2 c3) [.ref (h 0), .int (zI a), .int (zI b)] (wN h c1 th L K Dm S lo hi su db dy li so sp X ke se) (wN h c1 0 (L + 1) (upZ K L a) (upZ Dm L b) S lo hi su db dy li so sp X ke se) (zI L) 0 0 := by
  refine cI.of (cc := cX1_fill) (maxL := 3) (ret := .int) (by decide) rfl (lv := [(0, .ref (h 0)), (1, .int (zI a)), (2, .int (zI b))]) [0, 1, 2] rfl (Nat.le_of_ble_eq_true rfl) ?_
  intro p e s m args below meth c A C hr
  have C : GC p s m args meth c cX1_fill 3 RX1 wsX1_fill D (tyS c1 c2 c3) A := C
  have hin : ∀ w ∈ wsX10, w ∈ wsX1_fill := fun _ h => List.mem_cons_of_mem _ (List.mem_append_right _ h)
  refine j_aload_n (pc := 0) C dX1_fill_0 0 rfl ?_
  refine j_iconst (pc := 1) C dX1_fill_1 ?_
  refine j_put (pc := 2) C (ref := "GrainSiloModel") (T := TX1) (N := 16) (ws' := wN h c1 0 L K Dm S lo hi su db dy li so sp X ke se) hin tyX1 tyX1_ok nmX1 0 rfl rfl 0 (by decide) (C.w 1 rfl) rfl rfl (by decide +kernel) (Nat.le_of_ble_eq_true rfl) rfl dX1_fill_2 ?_
  refine j_iload_n (pc := 5) C dX1_fill_5 1 rfl ?_
  refine j_iconst (pc := 6) C dX1_fill_6 ?_
  refine j_iconst (pc := 7) C dX1_fill_7 ?_
  refine j_callSI (pc := 8) C (As := [.int (zI a), .int (zI 0), .int (zI 4)]) (rest := []) (kX1_isIn l D c1 c2 c3 a 0 4 ⟨by omega, by omega⟩ ⟨by omega, by omega⟩ ⟨by omega, by omega⟩) (va_cwS 3 C.2.2.2.2.1 gX1_fill_X1_isIn rfl rfl rfl (by decide +kernel) ⟨Nat.le_of_ble_eq_true rfl, Nat.le_of_ble_eq_true rfl⟩) dX1_fill_8 rfl rfl (Nat.le_of_ble_eq_true rfl) (by decide) ?_
  refine j_if_eq (pc := 11) C 24 dX1_fill_11 (by decide) ⟨by omega, by omega⟩ (fun c_11 => absurd c_11 (by omega)) (fun c_11 => ?_)
  refine j_iload_n (pc := 14) C dX1_fill_14 2 rfl ?_
  refine j_iconst (pc := 15) C dX1_fill_15 ?_
  refine j_bipush (pc := 16) C dX1_fill_16 (by decide +kernel) ?_
  refine j_callSI (pc := 18) C (As := [.int (zI b), .int (zI 0), .int (zI 40)]) (rest := []) (kX1_isIn l D c1 c2 c3 b 0 40 ⟨by omega, by omega⟩ ⟨by omega, by omega⟩ ⟨by omega, by omega⟩) (va_cwS 3 C.2.2.2.2.1 gX1_fill_X1_isIn rfl rfl rfl (by decide +kernel) ⟨Nat.le_of_ble_eq_true rfl, Nat.le_of_ble_eq_true rfl⟩) dX1_fill_18 rfl rfl (Nat.le_of_ble_eq_true rfl) (by decide) ?_
  refine j_if_ne (pc := 21) C 30 dX1_fill_21 (by decide) ⟨by omega, by omega⟩ (fun c_21 => ?_) (fun c_21 => absurd c_21 (by omega))
  refine j_aload_n (pc := 30) C dX1_fill_30 0 rfl ?_
  refine j_get (pc := 31) C (ref := "GrainSiloModel") (T := TX1) (N := 16) hin 0 rfl rfl 1 (by decide) (C.w 2 rfl) rfl rfl dX1_fill_31 ?_
  refine j_bipush (pc := 34) C dX1_fill_34 (by decide +kernel) ?_
  refine j_icmp_ne (pc := 36) C 45 dX1_fill_36 (by decide) ⟨by omega, by omega⟩ ⟨by omega, by omega⟩ (fun c_36 => ?_) (fun c_36 => absurd c_36 (by omega))
  refine j_aload_n (pc := 45) C dX1_fill_45 0 rfl ?_
  refine j_get (pc := 46) C (ref := "GrainSiloModel") (T := TX1) (N := 16) hin 0 rfl rfl 2 (by decide) (C.w 3 rfl) rfl rfl dX1_fill_46 ?_
  refine j_aload_n (pc := 49) C dX1_fill_49 0 rfl ?_
  refine j_get (pc := 50) C (ref := "GrainSiloModel") (T := TX1) (N := 16) hin 0 rfl rfl 1 (by decide) (C.w 2 rfl) rfl rfl dX1_fill_50 ?_
  refine j_iload_n (pc := 53) C dX1_fill_53 1 rfl ?_
  refine j_iast (pc := 54) C 1 0 rfl rfl (by omega) (by omega) (by decide) (ws' := wN h c1 0 L (upZ K L a) Dm S lo hi su db dy li so sp X ke se) rfl dX1_fill_54 ?_
  refine j_aload_n (pc := 55) C dX1_fill_55 0 rfl ?_
  refine j_get (pc := 56) C (ref := "GrainSiloModel") (T := TX1) (N := 16) hin 0 rfl rfl 3 (by decide) (C.w 4 rfl) rfl rfl dX1_fill_56 ?_
  refine j_aload_n (pc := 59) C dX1_fill_59 0 rfl ?_
  refine j_get (pc := 60) C (ref := "GrainSiloModel") (T := TX1) (N := 16) hin 0 rfl rfl 1 (by decide) (C.w 2 rfl) rfl rfl dX1_fill_60 ?_
  refine j_iload_n (pc := 63) C dX1_fill_63 2 rfl ?_
  refine j_iast (pc := 64) C 2 0 rfl rfl (by omega) (by omega) (by decide) (ws' := wN h c1 0 L (upZ K L a) (upZ Dm L b) S lo hi su db dy li so sp X ke se) rfl dX1_fill_64 ?_
  refine j_aload_n (pc := 65) C dX1_fill_65 0 rfl ?_
  refine j_dup (pc := 66) C dX1_fill_66 rfl ?_
  refine j_get (pc := 67) C (ref := "GrainSiloModel") (T := TX1) (N := 16) hin 0 rfl rfl 1 (by decide) (C.w 2 rfl) rfl rfl dX1_fill_67 ?_
  refine j_iconst (pc := 70) C dX1_fill_70 ?_
  refine j_iadd (pc := 71) C dX1_fill_71 ?_
  refine j_put (pc := 72) C (ref := "GrainSiloModel") (T := TX1) (N := 16) (ws' := wN h c1 0 (L + 1) (upZ K L a) (upZ Dm L b) S lo hi su db dy li so sp X ke se) hin tyX1 tyX1_ok nmX1 0 rfl rfl 1 (by decide) (C.w 2 rfl) rfl rfl (by decide +kernel) (Nat.le_of_ble_eq_true rfl) rfl dX1_fill_72 ?_
  refine j_aload_n (pc := 75) C dX1_fill_75 0 rfl ?_
  refine j_get (pc := 76) C (ref := "GrainSiloModel") (T := TX1) (N := 16) hin 0 rfl rfl 1 (by decide) (C.w 2 rfl) rfl rfl dX1_fill_76 ?_
  refine j_iconst (pc := 79) C dX1_fill_79 ?_
  refine j_isub (pc := 80) C dX1_fill_80 ?_
  exact j_iret (pc := 81) C hr dX1_fill_81 (by rw [Int.add_sub_cancel]) (by rfl) (by decide) (by decide)
set_option maxHeartbeats 4000000 in
set_option maxRecDepth 100000 in
theorem kX1_fill_no1 (l : Launch) (D : va_G) (h : Nat → Nat) (c1 c2 c3 : ClassId) (th L : Int) (K Dm : Int → Int) (S : Int) (lo hi su db : Int → Int) (dy li so sp : Int) (X : Int → Int → Int) (ke se : Int → Int) (a b : Int) (ha : zR a) (hb : zR b) (hn : ¬ (0 ≤ a ∧ a ≤ 4 ∧ 0 ≤ b ∧ b ≤ 40)) : cI l yX1_fill wsX1_fill ({ frames := 1, cells := 0, slots := 0, locals := 22 }) D (tyS c1 c2 c3) [.ref (h 0), .int (zI a), .int (zI b)] (wN h c1 th L K Dm S lo hi su db dy li so sp X ke se) (wN h c1 1 L K Dm S lo hi su db dy li so sp X ke se) (zI 0) 0 0 := by
  refine cI.of (cc := cX1_fill) (maxL := 3) (ret := .int) (by decide) rfl (lv := [(0, .ref (h 0)), (1, .int (zI a)), (2, .int (zI b))]) [0, 1, 2] rfl (Nat.le_of_ble_eq_true rfl) ?_
  intro p e s m args below meth c A C hr
  have C : GC p s m args meth c cX1_fill 3 RX1 wsX1_fill D (tyS c1 c2 c3) A := C
  have hin : ∀ w ∈ wsX10, w ∈ wsX1_fill := fun _ h => List.mem_cons_of_mem _ (List.mem_append_right _ h)
  obtain ⟨ha1, ha2⟩ := ha
  obtain ⟨hb1, hb2⟩ := hb
  refine j_aload_n (pc := 0) C dX1_fill_0 0 rfl ?_
  refine j_iconst (pc := 1) C dX1_fill_1 ?_
  refine j_put (pc := 2) C (ref := "GrainSiloModel") (T := TX1) (N := 16) (ws' := wN h c1 0 L K Dm S lo hi su db dy li so sp X ke se) hin tyX1 tyX1_ok nmX1 0 rfl rfl 0 (by decide) (C.w 1 rfl) rfl rfl (by decide +kernel) (Nat.le_of_ble_eq_true rfl) rfl dX1_fill_2 ?_
  refine j_iload_n (pc := 5) C dX1_fill_5 1 rfl ?_
  refine j_iconst (pc := 6) C dX1_fill_6 ?_
  refine j_iconst (pc := 7) C dX1_fill_7 ?_
  refine j_callSI (pc := 8) C (As := [.int (zI a), .int (zI 0), .int (zI 4)]) (rest := []) (kX1_isIn l D c1 c2 c3 a 0 4 ⟨by omega, by omega⟩ ⟨by omega, by omega⟩ ⟨by omega, by omega⟩) (va_cwS 3 C.2.2.2.2.1 gX1_fill_X1_isIn rfl rfl rfl (by decide +kernel) ⟨Nat.le_of_ble_eq_true rfl, Nat.le_of_ble_eq_true rfl⟩) dX1_fill_8 rfl rfl (Nat.le_of_ble_eq_true rfl) (by decide) ?_
  refine j_if_eq (pc := 11) C 24 dX1_fill_11 (by decide) ⟨by omega, by omega⟩ (fun c_11 => ?_) (fun c_11 => ?_)
  · skip
    refine j_aload_n (pc := 24) C dX1_fill_24 0 rfl ?_
    refine j_iconst (pc := 25) C dX1_fill_25 ?_
    refine j_callI (pc := 26) C (As := [.int (zI 1)]) (rest := []) (kX1_no l D h c1 c2 c3 0 L K Dm S lo hi su db dy li so sp X ke se 1 ) (cwV 1 C.2.2.2.2.1 gX1_fill_X1_no rfl rfl rfl (by decide +kernel) ⟨Nat.le_of_ble_eq_true rfl, Nat.le_of_ble_eq_true rfl⟩) 0 (ci := 1) rfl rfl rfl dX1_fill_26 rfl rfl (Nat.le_of_ble_eq_true rfl) (by decide) ?_
    exact j_iret (pc := 29) C hr dX1_fill_29 (by rfl) (by rfl) (by decide) (by decide)
  · skip
    refine j_iload_n (pc := 14) C dX1_fill_14 2 rfl ?_
    refine j_iconst (pc := 15) C dX1_fill_15 ?_
    refine j_bipush (pc := 16) C dX1_fill_16 (by decide +kernel) ?_
    refine j_callSI (pc := 18) C (As := [.int (zI b), .int (zI 0), .int (zI 40)]) (rest := []) (kX1_isIn l D c1 c2 c3 b 0 40 ⟨by omega, by omega⟩ ⟨by omega, by omega⟩ ⟨by omega, by omega⟩) (va_cwS 3 C.2.2.2.2.1 gX1_fill_X1_isIn rfl rfl rfl (by decide +kernel) ⟨Nat.le_of_ble_eq_true rfl, Nat.le_of_ble_eq_true rfl⟩) dX1_fill_18 rfl rfl (Nat.le_of_ble_eq_true rfl) (by decide) ?_
    refine j_if_ne (pc := 21) C 30 dX1_fill_21 (by decide) ⟨by omega, by omega⟩ (fun c_21 => absurd c_21 (by omega)) (fun c_21 => ?_)
    refine j_aload_n (pc := 24) C dX1_fill_24 0 rfl ?_
    refine j_iconst (pc := 25) C dX1_fill_25 ?_
    refine j_callI (pc := 26) C (As := [.int (zI 1)]) (rest := []) (kX1_no l D h c1 c2 c3 0 L K Dm S lo hi su db dy li so sp X ke se 1 ) (cwV 1 C.2.2.2.2.1 gX1_fill_X1_no rfl rfl rfl (by decide +kernel) ⟨Nat.le_of_ble_eq_true rfl, Nat.le_of_ble_eq_true rfl⟩) 0 (ci := 1) rfl rfl rfl dX1_fill_26 rfl rfl (Nat.le_of_ble_eq_true rfl) (by decide) ?_
    exact j_iret (pc := 29) C hr dX1_fill_29 (by rfl) (by rfl) (by decide) (by decide)
set_option maxHeartbeats 4000000 in
set_option maxRecDepth 100000 in
theorem kX1_fill_no2 (l : Launch) (D : va_G) (h : Nat → Nat) (c1 c2 c3 : ClassId) (th L : Int) (K Dm : Int → Int) (S : Int) (lo hi su db : Int → Int) (dy li so sp : Int) (X : Int → Int → Int) (ke se : Int → Int) (a b : Int) (h0 : 0 ≤ a) (h1 : a ≤ 4) (h2 : 0 ≤ b) (h3 : b ≤ 40) (hL : L = 12) : cI l yX1_fill wsX1_fill ({ frames := 1, cells := 0, slots := 0, locals := 22 }) D (tyS c1 c2 c3) [.ref (h 0), .int (zI a), .int (zI b)] (wN h c1 th L K Dm S lo hi su db dy li so sp X ke se) (wN h c1 2 L K Dm S lo hi su db dy li so sp X ke se) (zI 0) 0 0 := by
  refine cI.of (cc := cX1_fill) (maxL := 3) (ret := .int) (by decide) rfl (lv := [(0, .ref (h 0)), (1, .int (zI a)), (2, .int (zI b))]) [0, 1, 2] rfl (Nat.le_of_ble_eq_true rfl) ?_
  intro p e s m args below meth c A C hr
  have C : GC p s m args meth c cX1_fill 3 RX1 wsX1_fill D (tyS c1 c2 c3) A := C
  have hin : ∀ w ∈ wsX10, w ∈ wsX1_fill := fun _ h => List.mem_cons_of_mem _ (List.mem_append_right _ h)
  refine j_aload_n (pc := 0) C dX1_fill_0 0 rfl ?_
  refine j_iconst (pc := 1) C dX1_fill_1 ?_
  refine j_put (pc := 2) C (ref := "GrainSiloModel") (T := TX1) (N := 16) (ws' := wN h c1 0 L K Dm S lo hi su db dy li so sp X ke se) hin tyX1 tyX1_ok nmX1 0 rfl rfl 0 (by decide) (C.w 1 rfl) rfl rfl (by decide +kernel) (Nat.le_of_ble_eq_true rfl) rfl dX1_fill_2 ?_
  refine j_iload_n (pc := 5) C dX1_fill_5 1 rfl ?_
  refine j_iconst (pc := 6) C dX1_fill_6 ?_
  refine j_iconst (pc := 7) C dX1_fill_7 ?_
  refine j_callSI (pc := 8) C (As := [.int (zI a), .int (zI 0), .int (zI 4)]) (rest := []) (kX1_isIn l D c1 c2 c3 a 0 4 ⟨by omega, by omega⟩ ⟨by omega, by omega⟩ ⟨by omega, by omega⟩) (va_cwS 3 C.2.2.2.2.1 gX1_fill_X1_isIn rfl rfl rfl (by decide +kernel) ⟨Nat.le_of_ble_eq_true rfl, Nat.le_of_ble_eq_true rfl⟩) dX1_fill_8 rfl rfl (Nat.le_of_ble_eq_true rfl) (by decide) ?_
  refine j_if_eq (pc := 11) C 24 dX1_fill_11 (by decide) ⟨by omega, by omega⟩ (fun c_11 => absurd c_11 (by omega)) (fun c_11 => ?_)
  refine j_iload_n (pc := 14) C dX1_fill_14 2 rfl ?_
  refine j_iconst (pc := 15) C dX1_fill_15 ?_
  refine j_bipush (pc := 16) C dX1_fill_16 (by decide +kernel) ?_
  refine j_callSI (pc := 18) C (As := [.int (zI b), .int (zI 0), .int (zI 40)]) (rest := []) (kX1_isIn l D c1 c2 c3 b 0 40 ⟨by omega, by omega⟩ ⟨by omega, by omega⟩ ⟨by omega, by omega⟩) (va_cwS 3 C.2.2.2.2.1 gX1_fill_X1_isIn rfl rfl rfl (by decide +kernel) ⟨Nat.le_of_ble_eq_true rfl, Nat.le_of_ble_eq_true rfl⟩) dX1_fill_18 rfl rfl (Nat.le_of_ble_eq_true rfl) (by decide) ?_
  refine j_if_ne (pc := 21) C 30 dX1_fill_21 (by decide) ⟨by omega, by omega⟩ (fun c_21 => ?_) (fun c_21 => absurd c_21 (by omega))
  refine j_aload_n (pc := 30) C dX1_fill_30 0 rfl ?_
  refine j_get (pc := 31) C (ref := "GrainSiloModel") (T := TX1) (N := 16) hin 0 rfl rfl 1 (by decide) (C.w 2 rfl) rfl rfl dX1_fill_31 ?_
  refine j_bipush (pc := 34) C dX1_fill_34 (by decide +kernel) ?_
  refine j_icmp_ne (pc := 36) C 45 dX1_fill_36 (by decide) ⟨by omega, by omega⟩ ⟨by omega, by omega⟩ (fun c_36 => absurd c_36 (by omega)) (fun c_36 => ?_)
  refine j_aload_n (pc := 39) C dX1_fill_39 0 rfl ?_
  refine j_iconst (pc := 40) C dX1_fill_40 ?_
  refine j_callI (pc := 41) C (As := [.int (zI 2)]) (rest := []) (kX1_no l D h c1 c2 c3 0 L K Dm S lo hi su db dy li so sp X ke se 2 ) (cwV 1 C.2.2.2.2.1 gX1_fill_X1_no rfl rfl rfl (by decide +kernel) ⟨Nat.le_of_ble_eq_true rfl, Nat.le_of_ble_eq_true rfl⟩) 0 (ci := 1) rfl rfl rfl dX1_fill_41 rfl rfl (Nat.le_of_ble_eq_true rfl) (by decide) ?_
  exact j_iret (pc := 44) C hr dX1_fill_44 (by rfl) (by rfl) (by decide) (by decide)
set_option maxHeartbeats 4000000 in
set_option maxRecDepth 100000 in
theorem kX1_out (l : Launch) (D : va_G) (h : Nat → Nat) (c1 c2 c3 : ClassId) (th L : Int) (K Dm : Int → Int) (S : Int) (lo hi su db : Int → Int) (dy li so sp : Int) (X : Int → Int → Int) (ke se : Int → Int) (hok : okS Dm L lo hi su db S) (hl1 : 1 ≤ L) (l0 : 0 ≤ li) (l1 : li ≤ 40) : cI l yX1_out wsX1_out ({ frames := 1, cells := 0, slots := 0, locals := 22 }) D (tyS c1 c2 c3) [.ref (h 0)] (wN h c1 th L K Dm S lo hi su db dy li so sp X ke se) (wN h c1 th (L - 1) (shf K (L - 1 + 1)) (shf Dm (L - 1 + 1)) (dS (fun j => decide (¬ 0 < lo j ∧ hi j = 0)) S S) (mix (fun j => if 0 < (dA (fun j => decide (¬ 0 < lo j ∧ hi j = 0)) cNo lo S S) j then (dA (fun j => decide (¬ 0 < lo j ∧ hi j = 0)) cNo lo S S) j - 1 else (dA (fun j => decide (¬ 0 < lo j ∧ hi j = 0)) cNo lo S S) j) (dA (fun j => decide (¬ 0 < lo j ∧ hi j = 0)) cNo lo S S) (dS (fun j => decide (¬ 0 < lo j ∧ hi j = 0)) S S)) (mix (fun j => (dA (fun j => decide (¬ 0 < lo j ∧ hi j = 0)) cNo hi S S) j - 1) (dA (fun j => decide (¬ 0 < lo j ∧ hi j = 0)) cNo hi S S) (dS (fun j => decide (¬ 0 < lo j ∧ hi j = 0)) S S)) (dA (fun j => decide (¬ 0 < lo j ∧ hi j = 0)) (cCut (fun j => decide (¬ 0 < lo j ∧ ¬ hi j = 0)) (Dm 0)) su S S) (dA (fun j => decide (¬ 0 < lo j ∧ hi j = 0)) cNo db S S) dy li (if li < Dm 0 then so else so + 1) (if li < Dm 0 then sp + 1 else sp) X ke se) (zI (Dm 0)) 0 0 := by
  refine cI.of (cc := cX1_out) (maxL := 3) (ret := .int) (by decide) rfl (lv := [(0, .ref (h 0))]) [0] rfl (Nat.le_of_ble_eq_true rfl) ?_
  intro p e s m args below meth c A C hr
  have C : GC p s m args meth c cX1_out 3 RX1 wsX1_out D (tyS c1 c2 c3) A := C
  have hin : ∀ w ∈ wsX10, w ∈ wsX1_out := fun _ h => List.mem_cons_of_mem _ (List.mem_append_right _ h)
  obtain ⟨⟨hL0, hL⟩, ⟨hS0, hS⟩, hf, hs⟩ := id hok
  have q := hf 0 (by omega) (by omega)
  have z1 := dS_in (fun j => decide (¬ 0 < lo j ∧ hi j = 0)) S S hS0
  have z2 := dA_all (fun j => decide (¬ 0 < lo j ∧ hi j = 0)) lo S (fun v => 0 ≤ v ∧ v ≤ 12) (fun j j0 j1 => by have := hs j j0 j1; omega) S hS0 (Int.le_refl _)
  refine j_aload_n (pc := 0) C dX1_out_0 0 rfl ?_
  refine j_get (pc := 1) C (ref := "GrainSiloModel") (T := TX1) (N := 16) hin 0 rfl rfl 3 (by decide) (C.w 1 rfl) rfl rfl dX1_out_1 ?_
  refine j_iconst (pc := 4) C dX1_out_4 ?_
  refine j_iald (pc := 5) C 2 0 rfl rfl (by omega) (by omega) (by decide) dX1_out_5 ?_
  refine j_istore_n (pc := 6) C (lv' := [(0, .ref (h 0)), (1, .int (zI (Dm 0)))]) dX1_out_6 (by decide) [1, 0] rfl ?_
  refine j_iload_n (pc := 7) C dX1_out_7 1 rfl ?_
  refine j_aload_n (pc := 8) C dX1_out_8 0 rfl ?_
  refine j_get (pc := 9) C (ref := "GrainSiloModel") (T := TX1) (N := 16) hin 0 rfl rfl 10 (by decide) (C.w 2 rfl) rfl rfl dX1_out_9 ?_
  refine j_icmp_le (pc := 12) C 28 dX1_out_12 (by decide) ⟨by omega, by omega⟩ ⟨by omega, by omega⟩ (fun c_12 => ?_) (fun c_12 => ?_)
  · skip
    refine j_aload_n (pc := 28) C dX1_out_28 0 rfl ?_
    refine j_dup (pc := 29) C dX1_out_29 rfl ?_
    refine j_get (pc := 30) C (ref := "GrainSiloModel") (T := TX1) (N := 16) hin 0 rfl rfl 11 (by decide) (C.w 4 rfl) rfl rfl dX1_out_30 ?_
    refine j_iconst (pc := 33) C dX1_out_33 ?_
    refine j_iadd (pc := 34) C dX1_out_34 ?_
    refine j_put (pc := 35) C (ref := "GrainSiloModel") (T := TX1) (N := 16) (ws' := wN h c1 th L K Dm S lo hi su db dy li (so + 1) sp X ke se) hin tyX1 tyX1_ok nmX1 0 rfl rfl 11 (by decide) (C.w 4 rfl) rfl rfl (by decide +kernel) (Nat.le_of_ble_eq_true rfl) rfl dX1_out_35 ?_
    refine j_aload_n (pc := 38) C dX1_out_38 0 rfl ?_
    refine j_get (pc := 39) C (ref := "GrainSiloModel") (T := TX1) (N := 16) hin 0 rfl rfl 4 (by decide) (C.w 5 rfl) rfl rfl dX1_out_39 ?_
    refine j_iconst (pc := 42) C dX1_out_42 ?_
    refine j_isub (pc := 43) C dX1_out_43 ?_
    refine j_istore_n (pc := 44) C (lv' := [(0, .ref (h 0)), (1, .int (zI (Dm 0))), (2, .int (zI (S - 1)))]) dX1_out_44 (by decide) [1, 2, 0] rfl ?_
    refine J.cast (ws' := wN h c1 th L K Dm (dS (fun j => decide (¬ 0 < lo j ∧ hi j = 0)) S 0) (dA (fun j => decide (¬ 0 < lo j ∧ hi j = 0)) cNo lo S 0) (dA (fun j => decide (¬ 0 < lo j ∧ hi j = 0)) cNo hi S 0) (dA (fun j => decide (¬ 0 < lo j ∧ hi j = 0)) (cCut (fun j => decide (¬ 0 < lo j ∧ ¬ hi j = 0)) (Dm 0)) su S 0) (dA (fun j => decide (¬ 0 < lo j ∧ hi j = 0)) cNo db S 0) dy li (so + 1) sp X ke se) (lv' := [(0, .ref (h 0)), (1, .int (zI (Dm 0))), (2, .int (zI (S - 1 - 0)))]) ?_ (by rfl) (by rw [Int.sub_zero]) rfl
    refine j_up (fun t : Int => wN h c1 th L K Dm (dS (fun j => decide (¬ 0 < lo j ∧ hi j = 0)) S t) (dA (fun j => decide (¬ 0 < lo j ∧ hi j = 0)) cNo lo S t) (dA (fun j => decide (¬ 0 < lo j ∧ hi j = 0)) cNo hi S t) (dA (fun j => decide (¬ 0 < lo j ∧ hi j = 0)) (cCut (fun j => decide (¬ 0 < lo j ∧ ¬ hi j = 0)) (Dm 0)) su S t) (dA (fun j => decide (¬ 0 < lo j ∧ hi j = 0)) cNo db S t) dy li (so + 1) sp X ke se) (fun t : Int => [(0, .ref (h 0)), (1, .int (zI (Dm 0))), (2, .int (zI (S - 1 - t)))]) (fun t : Int => True) 0 S (by omega) trivial ?_ ?_
    · intro t h0_45 h1_45 hI_45 hk_45
      try dsimp only at hI_45 hk_45 ⊢
      have z3 := dS_in (fun j => decide (¬ 0 < lo j ∧ hi j = 0)) S t h0_45
      obtain ⟨s1, s2, s3, s4, s5, s6, s7⟩ := hs (S - 1 - t) (by omega) (by omega)
      have r_lo : dA (fun j => decide (¬ 0 < lo j ∧ hi j = 0)) cNo lo S t (S - 1 - t) = lo (S - 1 - t) := dA_lt _ _ cNo_lt _ S t h0_45 _ (by omega)
      have r_hi : dA (fun j => decide (¬ 0 < lo j ∧ hi j = 0)) cNo hi S t (S - 1 - t) = hi (S - 1 - t) := dA_lt _ _ cNo_lt _ S t h0_45 _ (by omega)
      have r_su : dA (fun j => decide (¬ 0 < lo j ∧ hi j = 0)) (cCut (fun j => decide (¬ 0 < lo j ∧ ¬ hi j = 0)) (Dm 0)) su S t (S - 1 - t) = su (S - 1 - t) := dA_lt _ _ (cCut_lt (fun j => decide (¬ 0 < lo j ∧ ¬ hi j = 0)) (Dm 0)) _ S t h0_45 _ (by omega)
      refine j_iload_n (pc := 45) C dX1_out_45 2 rfl ?_
      refine j_if_lt (pc := 46) C 94 dX1_out_46 (by decide) ⟨by omega, by omega⟩ (fun c_46 => absurd c_46 (by omega)) (fun c_46 => ?_)
      refine j_aload_n (pc := 49) C dX1_out_49 0 rfl ?_
      refine j_get (pc := 50) C (ref := "GrainSiloModel") (T := TX1) (N := 16) hin 0 rfl rfl 5 (by decide) (C.w 6 rfl) rfl rfl dX1_out_50 ?_
      refine j_iload_n (pc := 53) C dX1_out_53 2 rfl ?_
      refine j_iald (pc := 54) C 3 0 rfl rfl (by omega) (by omega) (by decide) dX1_out_54 ?_
      refine j_if_le (pc := 55) C 61 dX1_out_55 (by decide) ⟨by omega, by omega⟩ (fun c_55 => ?_) (fun c_55 => ?_)
      · skip
        refine j_aload_n (pc := 61) C dX1_out_61 0 rfl ?_
        refine j_get (pc := 62) C (ref := "GrainSiloModel") (T := TX1) (N := 16) hin 0 rfl rfl 6 (by decide) (C.w 7 rfl) rfl rfl dX1_out_62 ?_
        refine j_iload_n (pc := 65) C dX1_out_65 2 rfl ?_
        refine j_iald (pc := 66) C 4 0 rfl rfl (by omega) (by omega) (by decide) dX1_out_66 ?_
        refine j_if_ne (pc := 67) C 78 dX1_out_67 (by decide) ⟨by omega, by omega⟩ (fun c_67 => ?_) (fun c_67 => ?_)
        · skip
          have eP : (fun j => decide (¬ 0 < lo j ∧ hi j = 0)) (S - 1 - t) = false := decide_eq_false (by omega)
          have eQ : (fun j => decide (¬ 0 < lo j ∧ ¬ hi j = 0)) (S - 1 - t) = true := decide_eq_true (by omega)
          refine j_aload_n (pc := 78) C dX1_out_78 0 rfl ?_
          refine j_get (pc := 79) C (ref := "GrainSiloModel") (T := TX1) (N := 16) hin 0 rfl rfl 7 (by decide) (C.w 8 rfl) rfl rfl dX1_out_79 ?_
          refine j_iload_n (pc := 82) C dX1_out_82 2 rfl ?_
          refine j_dup2 (pc := 83) C dX1_out_83 rfl rfl ?_
          refine j_iald (pc := 84) C 5 0 rfl rfl (by omega) (by omega) (by decide) dX1_out_84 ?_
          refine j_iload_n (pc := 85) C dX1_out_85 1 rfl ?_
          refine j_isub (pc := 86) C dX1_out_86 ?_
          refine j_iast (pc := 87) C 5 0 rfl rfl (by omega) (by omega) (by decide) (ws' := wN h c1 th L K Dm (dS (fun j => decide (¬ 0 < lo j ∧ hi j = 0)) S t) (dA (fun j => decide (¬ 0 < lo j ∧ hi j = 0)) cNo lo S t) (dA (fun j => decide (¬ 0 < lo j ∧ hi j = 0)) cNo hi S t) (upZ (dA (fun j => decide (¬ 0 < lo j ∧ hi j = 0)) (cCut (fun j => decide (¬ 0 < lo j ∧ ¬ hi j = 0)) (Dm 0)) su S t) (S - 1 - t) (((dA (fun j => decide (¬ 0 < lo j ∧ hi j = 0)) (cCut (fun j => decide (¬ 0 < lo j ∧ ¬ hi j = 0)) (Dm 0)) su S t) (S - 1 - t)) - (Dm 0))) (dA (fun j => decide (¬ 0 < lo j ∧ hi j = 0)) cNo db S t) dy li (so + 1) sp X ke se) rfl dX1_out_87 ?_
          refine j_iinc (pc := 88) C (lv' := [(0, .ref (h 0)), (1, .int (zI (Dm 0))), (2, .int (zI (S - 1 - t + (-1))))]) dX1_out_88 2 rfl (by decide) [1, 2, 0] rfl ?_
          refine j_goto (pc := 91) C 45 dX1_out_91 (by decide) ?_
          exact J.cast (hk_45 trivial) (by first | (rw [dS_f (fun j => decide (¬ 0 < lo j ∧ hi j = 0)) S t h0_45 eP, dA_f (fun j => decide (¬ 0 < lo j ∧ hi j = 0)) cNo lo S t h0_45 eP, dA_f (fun j => decide (¬ 0 < lo j ∧ hi j = 0)) cNo hi S t h0_45 eP, dA_f (fun j => decide (¬ 0 < lo j ∧ hi j = 0)) (cCut (fun j => decide (¬ 0 < lo j ∧ ¬ hi j = 0)) (Dm 0)) su S t h0_45 eP, dA_f (fun j => decide (¬ 0 < lo j ∧ hi j = 0)) cNo db S t h0_45 eP, cCut_f _ _ _ _ eQ]; try rfl) | rw [dS_t (fun j => decide (¬ 0 < lo j ∧ hi j = 0)) S t h0_45 eP, dA_t (fun j => decide (¬ 0 < lo j ∧ hi j = 0)) cNo lo S t h0_45 eP, dA_t (fun j => decide (¬ 0 < lo j ∧ hi j = 0)) cNo hi S t h0_45 eP, dA_t (fun j => decide (¬ 0 < lo j ∧ hi j = 0)) (cCut (fun j => decide (¬ 0 < lo j ∧ ¬ hi j = 0)) (Dm 0)) su S t h0_45 eP, dA_t (fun j => decide (¬ 0 < lo j ∧ hi j = 0)) cNo db S t h0_45 eP] | (rw [dS_f (fun j => decide (¬ 0 < lo j ∧ hi j = 0)) S t h0_45 eP, dA_f (fun j => decide (¬ 0 < lo j ∧ hi j = 0)) cNo lo S t h0_45 eP, dA_f (fun j => decide (¬ 0 < lo j ∧ hi j = 0)) cNo hi S t h0_45 eP, dA_f (fun j => decide (¬ 0 < lo j ∧ hi j = 0)) (cCut (fun j => decide (¬ 0 < lo j ∧ ¬ hi j = 0)) (Dm 0)) su S t h0_45 eP, dA_f (fun j => decide (¬ 0 < lo j ∧ hi j = 0)) cNo db S t h0_45 eP, cCut_t _ _ _ _ eQ]; try rfl)) (by rw [show S - 1 - (t + 1) = S - 1 - t + (-1) by omega]) rfl
        · skip
          have eP : (fun j => decide (¬ 0 < lo j ∧ hi j = 0)) (S - 1 - t) = true := decide_eq_true (by omega)
          refine j_aload_n (pc := 70) C dX1_out_70 0 rfl ?_
          refine j_iload_n (pc := 71) C dX1_out_71 2 rfl ?_
          refine j_callV (pc := 72) C (As := [.int (zI (S - 1 - t))]) (rest := []) (kX1_drop l D h c1 c2 c3 th L K Dm (dS (fun j => decide (¬ 0 < lo j ∧ hi j = 0)) S t) (dA (fun j => decide (¬ 0 < lo j ∧ hi j = 0)) cNo lo S t) (dA (fun j => decide (¬ 0 < lo j ∧ hi j = 0)) cNo hi S t) (dA (fun j => decide (¬ 0 < lo j ∧ hi j = 0)) (cCut (fun j => decide (¬ 0 < lo j ∧ ¬ hi j = 0)) (Dm 0)) su S t) (dA (fun j => decide (¬ 0 < lo j ∧ hi j = 0)) cNo db S t) dy li (so + 1) sp X ke se (S - 1 - t) (by omega) (by omega) (by omega)) (cwV 1 C.2.2.2.2.1 gX1_out_X1_drop rfl rfl rfl (by decide +kernel) ⟨Nat.le_of_ble_eq_true rfl, Nat.le_of_ble_eq_true rfl⟩) 0 (ci := 1) rfl rfl rfl dX1_out_72 rfl rfl (Nat.le_of_ble_eq_true rfl) (by decide) ?_
          refine j_goto (pc := 75) C 88 dX1_out_75 (by decide) ?_
          refine j_iinc (pc := 88) C (lv' := [(0, .ref (h 0)), (1, .int (zI (Dm 0))), (2, .int (zI (S - 1 - t + (-1))))]) dX1_out_88 2 rfl (by decide) [1, 2, 0] rfl ?_
          refine j_goto (pc := 91) C 45 dX1_out_91 (by decide) ?_
          exact J.cast (hk_45 trivial) (by first | (rw [dS_f (fun j => decide (¬ 0 < lo j ∧ hi j = 0)) S t h0_45 eP, dA_f (fun j => decide (¬ 0 < lo j ∧ hi j = 0)) cNo lo S t h0_45 eP, dA_f (fun j => decide (¬ 0 < lo j ∧ hi j = 0)) cNo hi S t h0_45 eP, dA_f (fun j => decide (¬ 0 < lo j ∧ hi j = 0)) (cCut (fun j => decide (¬ 0 < lo j ∧ ¬ hi j = 0)) (Dm 0)) su S t h0_45 eP, dA_f (fun j => decide (¬ 0 < lo j ∧ hi j = 0)) cNo db S t h0_45 eP, cCut_f _ _ _ _ eQ]; try rfl) | rw [dS_t (fun j => decide (¬ 0 < lo j ∧ hi j = 0)) S t h0_45 eP, dA_t (fun j => decide (¬ 0 < lo j ∧ hi j = 0)) cNo lo S t h0_45 eP, dA_t (fun j => decide (¬ 0 < lo j ∧ hi j = 0)) cNo hi S t h0_45 eP, dA_t (fun j => decide (¬ 0 < lo j ∧ hi j = 0)) (cCut (fun j => decide (¬ 0 < lo j ∧ ¬ hi j = 0)) (Dm 0)) su S t h0_45 eP, dA_t (fun j => decide (¬ 0 < lo j ∧ hi j = 0)) cNo db S t h0_45 eP] | (rw [dS_f (fun j => decide (¬ 0 < lo j ∧ hi j = 0)) S t h0_45 eP, dA_f (fun j => decide (¬ 0 < lo j ∧ hi j = 0)) cNo lo S t h0_45 eP, dA_f (fun j => decide (¬ 0 < lo j ∧ hi j = 0)) cNo hi S t h0_45 eP, dA_f (fun j => decide (¬ 0 < lo j ∧ hi j = 0)) (cCut (fun j => decide (¬ 0 < lo j ∧ ¬ hi j = 0)) (Dm 0)) su S t h0_45 eP, dA_f (fun j => decide (¬ 0 < lo j ∧ hi j = 0)) cNo db S t h0_45 eP, cCut_t _ _ _ _ eQ]; try rfl)) (by rw [show S - 1 - (t + 1) = S - 1 - t + (-1) by omega]) rfl
      · skip
        have eP : (fun j => decide (¬ 0 < lo j ∧ hi j = 0)) (S - 1 - t) = false := decide_eq_false (by omega)
        have eQ : (fun j => decide (¬ 0 < lo j ∧ ¬ hi j = 0)) (S - 1 - t) = false := decide_eq_false (by omega)
        refine j_goto (pc := 58) C 88 dX1_out_58 (by decide) ?_
        refine j_iinc (pc := 88) C (lv' := [(0, .ref (h 0)), (1, .int (zI (Dm 0))), (2, .int (zI (S - 1 - t + (-1))))]) dX1_out_88 2 rfl (by decide) [1, 2, 0] rfl ?_
        refine j_goto (pc := 91) C 45 dX1_out_91 (by decide) ?_
        exact J.cast (hk_45 trivial) (by first | (rw [dS_f (fun j => decide (¬ 0 < lo j ∧ hi j = 0)) S t h0_45 eP, dA_f (fun j => decide (¬ 0 < lo j ∧ hi j = 0)) cNo lo S t h0_45 eP, dA_f (fun j => decide (¬ 0 < lo j ∧ hi j = 0)) cNo hi S t h0_45 eP, dA_f (fun j => decide (¬ 0 < lo j ∧ hi j = 0)) (cCut (fun j => decide (¬ 0 < lo j ∧ ¬ hi j = 0)) (Dm 0)) su S t h0_45 eP, dA_f (fun j => decide (¬ 0 < lo j ∧ hi j = 0)) cNo db S t h0_45 eP, cCut_f _ _ _ _ eQ]; try rfl) | rw [dS_t (fun j => decide (¬ 0 < lo j ∧ hi j = 0)) S t h0_45 eP, dA_t (fun j => decide (¬ 0 < lo j ∧ hi j = 0)) cNo lo S t h0_45 eP, dA_t (fun j => decide (¬ 0 < lo j ∧ hi j = 0)) cNo hi S t h0_45 eP, dA_t (fun j => decide (¬ 0 < lo j ∧ hi j = 0)) (cCut (fun j => decide (¬ 0 < lo j ∧ ¬ hi j = 0)) (Dm 0)) su S t h0_45 eP, dA_t (fun j => decide (¬ 0 < lo j ∧ hi j = 0)) cNo db S t h0_45 eP] | (rw [dS_f (fun j => decide (¬ 0 < lo j ∧ hi j = 0)) S t h0_45 eP, dA_f (fun j => decide (¬ 0 < lo j ∧ hi j = 0)) cNo lo S t h0_45 eP, dA_f (fun j => decide (¬ 0 < lo j ∧ hi j = 0)) cNo hi S t h0_45 eP, dA_f (fun j => decide (¬ 0 < lo j ∧ hi j = 0)) (cCut (fun j => decide (¬ 0 < lo j ∧ ¬ hi j = 0)) (Dm 0)) su S t h0_45 eP, dA_f (fun j => decide (¬ 0 < lo j ∧ hi j = 0)) cNo db S t h0_45 eP, cCut_t _ _ _ _ eQ]; try rfl)) (by rw [show S - 1 - (t + 1) = S - 1 - t + (-1) by omega]) rfl
    · intro hI_45
      try dsimp only at hI_45 ⊢
      refine j_iload_n (pc := 45) C dX1_out_45 2 rfl ?_
      refine j_if_lt (pc := 46) C 94 dX1_out_46 (by decide) ⟨by omega, by omega⟩ (fun c_46 => ?_) (fun c_46 => absurd c_46 (by omega))
      refine j_aload_n (pc := 94) C dX1_out_94 0 rfl ?_
      refine j_callV (pc := 95) C (As := []) (rest := []) (kX1_sink l D h c1 c2 c3 th L K Dm (dS (fun j => decide (¬ 0 < lo j ∧ hi j = 0)) S S) (dA (fun j => decide (¬ 0 < lo j ∧ hi j = 0)) cNo lo S S) (dA (fun j => decide (¬ 0 < lo j ∧ hi j = 0)) cNo hi S S) (dA (fun j => decide (¬ 0 < lo j ∧ hi j = 0)) (cCut (fun j => decide (¬ 0 < lo j ∧ ¬ hi j = 0)) (Dm 0)) su S S) (dA (fun j => decide (¬ 0 < lo j ∧ hi j = 0)) cNo db S S) dy li (so + 1) sp X ke se  (by omega) (by omega) (by omega) (by omega) z2) (cwV 0 C.2.2.2.2.1 gX1_out_X1_sink rfl rfl rfl (by decide +kernel) ⟨Nat.le_of_ble_eq_true rfl, Nat.le_of_ble_eq_true rfl⟩) 0 (ci := 1) rfl rfl rfl dX1_out_95 rfl rfl (Nat.le_of_ble_eq_true rfl) (by decide) ?_
      refine j_aload_n (pc := 98) C dX1_out_98 0 rfl ?_
      refine j_dup (pc := 99) C dX1_out_99 rfl ?_
      refine j_get (pc := 100) C (ref := "GrainSiloModel") (T := TX1) (N := 16) hin 0 rfl rfl 1 (by decide) (C.w 9 rfl) rfl rfl dX1_out_100 ?_
      refine j_iconst (pc := 103) C dX1_out_103 ?_
      refine j_isub (pc := 104) C dX1_out_104 ?_
      refine j_put (pc := 105) C (ref := "GrainSiloModel") (T := TX1) (N := 16) (ws' := wN h c1 th (L - 1) (shf K (L - 1 + 1)) (shf Dm (L - 1 + 1)) (dS (fun j => decide (¬ 0 < lo j ∧ hi j = 0)) S S) (mix (fun j => if 0 < (dA (fun j => decide (¬ 0 < lo j ∧ hi j = 0)) cNo lo S S) j then (dA (fun j => decide (¬ 0 < lo j ∧ hi j = 0)) cNo lo S S) j - 1 else (dA (fun j => decide (¬ 0 < lo j ∧ hi j = 0)) cNo lo S S) j) (dA (fun j => decide (¬ 0 < lo j ∧ hi j = 0)) cNo lo S S) (dS (fun j => decide (¬ 0 < lo j ∧ hi j = 0)) S S)) (mix (fun j => (dA (fun j => decide (¬ 0 < lo j ∧ hi j = 0)) cNo hi S S) j - 1) (dA (fun j => decide (¬ 0 < lo j ∧ hi j = 0)) cNo hi S S) (dS (fun j => decide (¬ 0 < lo j ∧ hi j = 0)) S S)) (dA (fun j => decide (¬ 0 < lo j ∧ hi j = 0)) (cCut (fun j => decide (¬ 0 < lo j ∧ ¬ hi j = 0)) (Dm 0)) su S S) (dA (fun j => decide (¬ 0 < lo j ∧ hi j = 0)) cNo db S S) dy li (so + 1) sp X ke se) hin tyX1 tyX1_ok nmX1 0 rfl rfl 1 (by decide) (C.w 9 rfl) rfl rfl (by decide +kernel) (Nat.le_of_ble_eq_true rfl) rfl dX1_out_105 ?_
      refine j_iload_n (pc := 108) C dX1_out_108 1 rfl ?_
      exact j_iret (pc := 109) C hr dX1_out_109 (by rfl) (by first | rw [if_pos c_12, if_pos c_12] | rw [if_neg (Int.not_lt.mpr c_12), if_neg (Int.not_lt.mpr c_12)]) (by decide) (by decide)
  · skip
    refine j_aload_n (pc := 15) C dX1_out_15 0 rfl ?_
    refine j_dup (pc := 16) C dX1_out_16 rfl ?_
    refine j_get (pc := 17) C (ref := "GrainSiloModel") (T := TX1) (N := 16) hin 0 rfl rfl 12 (by decide) (C.w 3 rfl) rfl rfl dX1_out_17 ?_
    refine j_iconst (pc := 20) C dX1_out_20 ?_
    refine j_iadd (pc := 21) C dX1_out_21 ?_
    refine j_put (pc := 22) C (ref := "GrainSiloModel") (T := TX1) (N := 16) (ws' := wN h c1 th L K Dm S lo hi su db dy li so (sp + 1) X ke se) hin tyX1 tyX1_ok nmX1 0 rfl rfl 12 (by decide) (C.w 3 rfl) rfl rfl (by decide +kernel) (Nat.le_of_ble_eq_true rfl) rfl dX1_out_22 ?_
    refine j_goto (pc := 25) C 38 dX1_out_25 (by decide) ?_
    refine j_aload_n (pc := 38) C dX1_out_38 0 rfl ?_
    refine j_get (pc := 39) C (ref := "GrainSiloModel") (T := TX1) (N := 16) hin 0 rfl rfl 4 (by decide) (C.w 5 rfl) rfl rfl dX1_out_39 ?_
    refine j_iconst (pc := 42) C dX1_out_42 ?_
    refine j_isub (pc := 43) C dX1_out_43 ?_
    refine j_istore_n (pc := 44) C (lv' := [(0, .ref (h 0)), (1, .int (zI (Dm 0))), (2, .int (zI (S - 1)))]) dX1_out_44 (by decide) [1, 2, 0] rfl ?_
    refine J.cast (ws' := wN h c1 th L K Dm (dS (fun j => decide (¬ 0 < lo j ∧ hi j = 0)) S 0) (dA (fun j => decide (¬ 0 < lo j ∧ hi j = 0)) cNo lo S 0) (dA (fun j => decide (¬ 0 < lo j ∧ hi j = 0)) cNo hi S 0) (dA (fun j => decide (¬ 0 < lo j ∧ hi j = 0)) (cCut (fun j => decide (¬ 0 < lo j ∧ ¬ hi j = 0)) (Dm 0)) su S 0) (dA (fun j => decide (¬ 0 < lo j ∧ hi j = 0)) cNo db S 0) dy li so (sp + 1) X ke se) (lv' := [(0, .ref (h 0)), (1, .int (zI (Dm 0))), (2, .int (zI (S - 1 - 0)))]) ?_ (by rfl) (by rw [Int.sub_zero]) rfl
    refine j_up (fun t : Int => wN h c1 th L K Dm (dS (fun j => decide (¬ 0 < lo j ∧ hi j = 0)) S t) (dA (fun j => decide (¬ 0 < lo j ∧ hi j = 0)) cNo lo S t) (dA (fun j => decide (¬ 0 < lo j ∧ hi j = 0)) cNo hi S t) (dA (fun j => decide (¬ 0 < lo j ∧ hi j = 0)) (cCut (fun j => decide (¬ 0 < lo j ∧ ¬ hi j = 0)) (Dm 0)) su S t) (dA (fun j => decide (¬ 0 < lo j ∧ hi j = 0)) cNo db S t) dy li so (sp + 1) X ke se) (fun t : Int => [(0, .ref (h 0)), (1, .int (zI (Dm 0))), (2, .int (zI (S - 1 - t)))]) (fun t : Int => True) 0 S (by omega) trivial ?_ ?_
    · intro t h0_45 h1_45 hI_45 hk_45
      try dsimp only at hI_45 hk_45 ⊢
      have z3 := dS_in (fun j => decide (¬ 0 < lo j ∧ hi j = 0)) S t h0_45
      obtain ⟨s1, s2, s3, s4, s5, s6, s7⟩ := hs (S - 1 - t) (by omega) (by omega)
      have r_lo : dA (fun j => decide (¬ 0 < lo j ∧ hi j = 0)) cNo lo S t (S - 1 - t) = lo (S - 1 - t) := dA_lt _ _ cNo_lt _ S t h0_45 _ (by omega)
      have r_hi : dA (fun j => decide (¬ 0 < lo j ∧ hi j = 0)) cNo hi S t (S - 1 - t) = hi (S - 1 - t) := dA_lt _ _ cNo_lt _ S t h0_45 _ (by omega)
      have r_su : dA (fun j => decide (¬ 0 < lo j ∧ hi j = 0)) (cCut (fun j => decide (¬ 0 < lo j ∧ ¬ hi j = 0)) (Dm 0)) su S t (S - 1 - t) = su (S - 1 - t) := dA_lt _ _ (cCut_lt (fun j => decide (¬ 0 < lo j ∧ ¬ hi j = 0)) (Dm 0)) _ S t h0_45 _ (by omega)
      refine j_iload_n (pc := 45) C dX1_out_45 2 rfl ?_
      refine j_if_lt (pc := 46) C 94 dX1_out_46 (by decide) ⟨by omega, by omega⟩ (fun c_46 => absurd c_46 (by omega)) (fun c_46 => ?_)
      refine j_aload_n (pc := 49) C dX1_out_49 0 rfl ?_
      refine j_get (pc := 50) C (ref := "GrainSiloModel") (T := TX1) (N := 16) hin 0 rfl rfl 5 (by decide) (C.w 6 rfl) rfl rfl dX1_out_50 ?_
      refine j_iload_n (pc := 53) C dX1_out_53 2 rfl ?_
      refine j_iald (pc := 54) C 3 0 rfl rfl (by omega) (by omega) (by decide) dX1_out_54 ?_
      refine j_if_le (pc := 55) C 61 dX1_out_55 (by decide) ⟨by omega, by omega⟩ (fun c_55 => ?_) (fun c_55 => ?_)
      · skip
        refine j_aload_n (pc := 61) C dX1_out_61 0 rfl ?_
        refine j_get (pc := 62) C (ref := "GrainSiloModel") (T := TX1) (N := 16) hin 0 rfl rfl 6 (by decide) (C.w 7 rfl) rfl rfl dX1_out_62 ?_
        refine j_iload_n (pc := 65) C dX1_out_65 2 rfl ?_
        refine j_iald (pc := 66) C 4 0 rfl rfl (by omega) (by omega) (by decide) dX1_out_66 ?_
        refine j_if_ne (pc := 67) C 78 dX1_out_67 (by decide) ⟨by omega, by omega⟩ (fun c_67 => ?_) (fun c_67 => ?_)
        · skip
          have eP : (fun j => decide (¬ 0 < lo j ∧ hi j = 0)) (S - 1 - t) = false := decide_eq_false (by omega)
          have eQ : (fun j => decide (¬ 0 < lo j ∧ ¬ hi j = 0)) (S - 1 - t) = true := decide_eq_true (by omega)
          refine j_aload_n (pc := 78) C dX1_out_78 0 rfl ?_
          refine j_get (pc := 79) C (ref := "GrainSiloModel") (T := TX1) (N := 16) hin 0 rfl rfl 7 (by decide) (C.w 8 rfl) rfl rfl dX1_out_79 ?_
          refine j_iload_n (pc := 82) C dX1_out_82 2 rfl ?_
          refine j_dup2 (pc := 83) C dX1_out_83 rfl rfl ?_
          refine j_iald (pc := 84) C 5 0 rfl rfl (by omega) (by omega) (by decide) dX1_out_84 ?_
          refine j_iload_n (pc := 85) C dX1_out_85 1 rfl ?_
          refine j_isub (pc := 86) C dX1_out_86 ?_
          refine j_iast (pc := 87) C 5 0 rfl rfl (by omega) (by omega) (by decide) (ws' := wN h c1 th L K Dm (dS (fun j => decide (¬ 0 < lo j ∧ hi j = 0)) S t) (dA (fun j => decide (¬ 0 < lo j ∧ hi j = 0)) cNo lo S t) (dA (fun j => decide (¬ 0 < lo j ∧ hi j = 0)) cNo hi S t) (upZ (dA (fun j => decide (¬ 0 < lo j ∧ hi j = 0)) (cCut (fun j => decide (¬ 0 < lo j ∧ ¬ hi j = 0)) (Dm 0)) su S t) (S - 1 - t) (((dA (fun j => decide (¬ 0 < lo j ∧ hi j = 0)) (cCut (fun j => decide (¬ 0 < lo j ∧ ¬ hi j = 0)) (Dm 0)) su S t) (S - 1 - t)) - (Dm 0))) (dA (fun j => decide (¬ 0 < lo j ∧ hi j = 0)) cNo db S t) dy li so (sp + 1) X ke se) rfl dX1_out_87 ?_
          refine j_iinc (pc := 88) C (lv' := [(0, .ref (h 0)), (1, .int (zI (Dm 0))), (2, .int (zI (S - 1 - t + (-1))))]) dX1_out_88 2 rfl (by decide) [1, 2, 0] rfl ?_
          refine j_goto (pc := 91) C 45 dX1_out_91 (by decide) ?_
          exact J.cast (hk_45 trivial) (by first | (rw [dS_f (fun j => decide (¬ 0 < lo j ∧ hi j = 0)) S t h0_45 eP, dA_f (fun j => decide (¬ 0 < lo j ∧ hi j = 0)) cNo lo S t h0_45 eP, dA_f (fun j => decide (¬ 0 < lo j ∧ hi j = 0)) cNo hi S t h0_45 eP, dA_f (fun j => decide (¬ 0 < lo j ∧ hi j = 0)) (cCut (fun j => decide (¬ 0 < lo j ∧ ¬ hi j = 0)) (Dm 0)) su S t h0_45 eP, dA_f (fun j => decide (¬ 0 < lo j ∧ hi j = 0)) cNo db S t h0_45 eP, cCut_f _ _ _ _ eQ]; try rfl) | rw [dS_t (fun j => decide (¬ 0 < lo j ∧ hi j = 0)) S t h0_45 eP, dA_t (fun j => decide (¬ 0 < lo j ∧ hi j = 0)) cNo lo S t h0_45 eP, dA_t (fun j => decide (¬ 0 < lo j ∧ hi j = 0)) cNo hi S t h0_45 eP, dA_t (fun j => decide (¬ 0 < lo j ∧ hi j = 0)) (cCut (fun j => decide (¬ 0 < lo j ∧ ¬ hi j = 0)) (Dm 0)) su S t h0_45 eP, dA_t (fun j => decide (¬ 0 < lo j ∧ hi j = 0)) cNo db S t h0_45 eP] | (rw [dS_f (fun j => decide (¬ 0 < lo j ∧ hi j = 0)) S t h0_45 eP, dA_f (fun j => decide (¬ 0 < lo j ∧ hi j = 0)) cNo lo S t h0_45 eP, dA_f (fun j => decide (¬ 0 < lo j ∧ hi j = 0)) cNo hi S t h0_45 eP, dA_f (fun j => decide (¬ 0 < lo j ∧ hi j = 0)) (cCut (fun j => decide (¬ 0 < lo j ∧ ¬ hi j = 0)) (Dm 0)) su S t h0_45 eP, dA_f (fun j => decide (¬ 0 < lo j ∧ hi j = 0)) cNo db S t h0_45 eP, cCut_t _ _ _ _ eQ]; try rfl)) (by rw [show S - 1 - (t + 1) = S - 1 - t + (-1) by omega]) rfl
        · skip
          have eP : (fun j => decide (¬ 0 < lo j ∧ hi j = 0)) (S - 1 - t) = true := decide_eq_true (by omega)
          refine j_aload_n (pc := 70) C dX1_out_70 0 rfl ?_
          refine j_iload_n (pc := 71) C dX1_out_71 2 rfl ?_
          refine j_callV (pc := 72) C (As := [.int (zI (S - 1 - t))]) (rest := []) (kX1_drop l D h c1 c2 c3 th L K Dm (dS (fun j => decide (¬ 0 < lo j ∧ hi j = 0)) S t) (dA (fun j => decide (¬ 0 < lo j ∧ hi j = 0)) cNo lo S t) (dA (fun j => decide (¬ 0 < lo j ∧ hi j = 0)) cNo hi S t) (dA (fun j => decide (¬ 0 < lo j ∧ hi j = 0)) (cCut (fun j => decide (¬ 0 < lo j ∧ ¬ hi j = 0)) (Dm 0)) su S t) (dA (fun j => decide (¬ 0 < lo j ∧ hi j = 0)) cNo db S t) dy li so (sp + 1) X ke se (S - 1 - t) (by omega) (by omega) (by omega)) (cwV 1 C.2.2.2.2.1 gX1_out_X1_drop rfl rfl rfl (by decide +kernel) ⟨Nat.le_of_ble_eq_true rfl, Nat.le_of_ble_eq_true rfl⟩) 0 (ci := 1) rfl rfl rfl dX1_out_72 rfl rfl (Nat.le_of_ble_eq_true rfl) (by decide) ?_
          refine j_goto (pc := 75) C 88 dX1_out_75 (by decide) ?_
          refine j_iinc (pc := 88) C (lv' := [(0, .ref (h 0)), (1, .int (zI (Dm 0))), (2, .int (zI (S - 1 - t + (-1))))]) dX1_out_88 2 rfl (by decide) [1, 2, 0] rfl ?_
          refine j_goto (pc := 91) C 45 dX1_out_91 (by decide) ?_
          exact J.cast (hk_45 trivial) (by first | (rw [dS_f (fun j => decide (¬ 0 < lo j ∧ hi j = 0)) S t h0_45 eP, dA_f (fun j => decide (¬ 0 < lo j ∧ hi j = 0)) cNo lo S t h0_45 eP, dA_f (fun j => decide (¬ 0 < lo j ∧ hi j = 0)) cNo hi S t h0_45 eP, dA_f (fun j => decide (¬ 0 < lo j ∧ hi j = 0)) (cCut (fun j => decide (¬ 0 < lo j ∧ ¬ hi j = 0)) (Dm 0)) su S t h0_45 eP, dA_f (fun j => decide (¬ 0 < lo j ∧ hi j = 0)) cNo db S t h0_45 eP, cCut_f _ _ _ _ eQ]; try rfl) | rw [dS_t (fun j => decide (¬ 0 < lo j ∧ hi j = 0)) S t h0_45 eP, dA_t (fun j => decide (¬ 0 < lo j ∧ hi j = 0)) cNo lo S t h0_45 eP, dA_t (fun j => decide (¬ 0 < lo j ∧ hi j = 0)) cNo hi S t h0_45 eP, dA_t (fun j => decide (¬ 0 < lo j ∧ hi j = 0)) (cCut (fun j => decide (¬ 0 < lo j ∧ ¬ hi j = 0)) (Dm 0)) su S t h0_45 eP, dA_t (fun j => decide (¬ 0 < lo j ∧ hi j = 0)) cNo db S t h0_45 eP] | (rw [dS_f (fun j => decide (¬ 0 < lo j ∧ hi j = 0)) S t h0_45 eP, dA_f (fun j => decide (¬ 0 < lo j ∧ hi j = 0)) cNo lo S t h0_45 eP, dA_f (fun j => decide (¬ 0 < lo j ∧ hi j = 0)) cNo hi S t h0_45 eP, dA_f (fun j => decide (¬ 0 < lo j ∧ hi j = 0)) (cCut (fun j => decide (¬ 0 < lo j ∧ ¬ hi j = 0)) (Dm 0)) su S t h0_45 eP, dA_f (fun j => decide (¬ 0 < lo j ∧ hi j = 0)) cNo db S t h0_45 eP, cCut_t _ _ _ _ eQ]; try rfl)) (by rw [show S - 1 - (t + 1) = S - 1 - t + (-1) by omega]) rfl
      · skip
        have eP : (fun j => decide (¬ 0 < lo j ∧ hi j = 0)) (S - 1 - t) = false := decide_eq_false (by omega)
        have eQ : (fun j => decide (¬ 0 < lo j ∧ ¬ hi j = 0)) (S - 1 - t) = false := decide_eq_false (by omega)
        refine j_goto (pc := 58) C 88 dX1_out_58 (by decide) ?_
        refine j_iinc (pc := 88) C (lv' := [(0, .ref (h 0)), (1, .int (zI (Dm 0))), (2, .int (zI (S - 1 - t + (-1))))]) dX1_out_88 2 rfl (by decide) [1, 2, 0] rfl ?_
        refine j_goto (pc := 91) C 45 dX1_out_91 (by decide) ?_
        exact J.cast (hk_45 trivial) (by first | (rw [dS_f (fun j => decide (¬ 0 < lo j ∧ hi j = 0)) S t h0_45 eP, dA_f (fun j => decide (¬ 0 < lo j ∧ hi j = 0)) cNo lo S t h0_45 eP, dA_f (fun j => decide (¬ 0 < lo j ∧ hi j = 0)) cNo hi S t h0_45 eP, dA_f (fun j => decide (¬ 0 < lo j ∧ hi j = 0)) (cCut (fun j => decide (¬ 0 < lo j ∧ ¬ hi j = 0)) (Dm 0)) su S t h0_45 eP, dA_f (fun j => decide (¬ 0 < lo j ∧ hi j = 0)) cNo db S t h0_45 eP, cCut_f _ _ _ _ eQ]; try rfl) | rw [dS_t (fun j => decide (¬ 0 < lo j ∧ hi j = 0)) S t h0_45 eP, dA_t (fun j => decide (¬ 0 < lo j ∧ hi j = 0)) cNo lo S t h0_45 eP, dA_t (fun j => decide (¬ 0 < lo j ∧ hi j = 0)) cNo hi S t h0_45 eP, dA_t (fun j => decide (¬ 0 < lo j ∧ hi j = 0)) (cCut (fun j => decide (¬ 0 < lo j ∧ ¬ hi j = 0)) (Dm 0)) su S t h0_45 eP, dA_t (fun j => decide (¬ 0 < lo j ∧ hi j = 0)) cNo db S t h0_45 eP] | (rw [dS_f (fun j => decide (¬ 0 < lo j ∧ hi j = 0)) S t h0_45 eP, dA_f (fun j => decide (¬ 0 < lo j ∧ hi j = 0)) cNo lo S t h0_45 eP, dA_f (fun j => decide (¬ 0 < lo j ∧ hi j = 0)) cNo hi S t h0_45 eP, dA_f (fun j => decide (¬ 0 < lo j ∧ hi j = 0)) (cCut (fun j => decide (¬ 0 < lo j ∧ ¬ hi j = 0)) (Dm 0)) su S t h0_45 eP, dA_f (fun j => decide (¬ 0 < lo j ∧ hi j = 0)) cNo db S t h0_45 eP, cCut_t _ _ _ _ eQ]; try rfl)) (by rw [show S - 1 - (t + 1) = S - 1 - t + (-1) by omega]) rfl
    · intro hI_45
      try dsimp only at hI_45 ⊢
      refine j_iload_n (pc := 45) C dX1_out_45 2 rfl ?_
      refine j_if_lt (pc := 46) C 94 dX1_out_46 (by decide) ⟨by omega, by omega⟩ (fun c_46 => ?_) (fun c_46 => absurd c_46 (by omega))
      refine j_aload_n (pc := 94) C dX1_out_94 0 rfl ?_
      refine j_callV (pc := 95) C (As := []) (rest := []) (kX1_sink l D h c1 c2 c3 th L K Dm (dS (fun j => decide (¬ 0 < lo j ∧ hi j = 0)) S S) (dA (fun j => decide (¬ 0 < lo j ∧ hi j = 0)) cNo lo S S) (dA (fun j => decide (¬ 0 < lo j ∧ hi j = 0)) cNo hi S S) (dA (fun j => decide (¬ 0 < lo j ∧ hi j = 0)) (cCut (fun j => decide (¬ 0 < lo j ∧ ¬ hi j = 0)) (Dm 0)) su S S) (dA (fun j => decide (¬ 0 < lo j ∧ hi j = 0)) cNo db S S) dy li so (sp + 1) X ke se  (by omega) (by omega) (by omega) (by omega) z2) (cwV 0 C.2.2.2.2.1 gX1_out_X1_sink rfl rfl rfl (by decide +kernel) ⟨Nat.le_of_ble_eq_true rfl, Nat.le_of_ble_eq_true rfl⟩) 0 (ci := 1) rfl rfl rfl dX1_out_95 rfl rfl (Nat.le_of_ble_eq_true rfl) (by decide) ?_
      refine j_aload_n (pc := 98) C dX1_out_98 0 rfl ?_
      refine j_dup (pc := 99) C dX1_out_99 rfl ?_
      refine j_get (pc := 100) C (ref := "GrainSiloModel") (T := TX1) (N := 16) hin 0 rfl rfl 1 (by decide) (C.w 9 rfl) rfl rfl dX1_out_100 ?_
      refine j_iconst (pc := 103) C dX1_out_103 ?_
      refine j_isub (pc := 104) C dX1_out_104 ?_
      refine j_put (pc := 105) C (ref := "GrainSiloModel") (T := TX1) (N := 16) (ws' := wN h c1 th (L - 1) (shf K (L - 1 + 1)) (shf Dm (L - 1 + 1)) (dS (fun j => decide (¬ 0 < lo j ∧ hi j = 0)) S S) (mix (fun j => if 0 < (dA (fun j => decide (¬ 0 < lo j ∧ hi j = 0)) cNo lo S S) j then (dA (fun j => decide (¬ 0 < lo j ∧ hi j = 0)) cNo lo S S) j - 1 else (dA (fun j => decide (¬ 0 < lo j ∧ hi j = 0)) cNo lo S S) j) (dA (fun j => decide (¬ 0 < lo j ∧ hi j = 0)) cNo lo S S) (dS (fun j => decide (¬ 0 < lo j ∧ hi j = 0)) S S)) (mix (fun j => (dA (fun j => decide (¬ 0 < lo j ∧ hi j = 0)) cNo hi S S) j - 1) (dA (fun j => decide (¬ 0 < lo j ∧ hi j = 0)) cNo hi S S) (dS (fun j => decide (¬ 0 < lo j ∧ hi j = 0)) S S)) (dA (fun j => decide (¬ 0 < lo j ∧ hi j = 0)) (cCut (fun j => decide (¬ 0 < lo j ∧ ¬ hi j = 0)) (Dm 0)) su S S) (dA (fun j => decide (¬ 0 < lo j ∧ hi j = 0)) cNo db S S) dy li so (sp + 1) X ke se) hin tyX1 tyX1_ok nmX1 0 rfl rfl 1 (by decide) (C.w 9 rfl) rfl rfl (by decide +kernel) (Nat.le_of_ble_eq_true rfl) rfl dX1_out_105 ?_
      refine j_iload_n (pc := 108) C dX1_out_108 1 rfl ?_
      exact j_iret (pc := 109) C hr dX1_out_109 (by rfl) (by first | rw [if_pos c_12, if_pos c_12] | rw [if_neg (Int.not_lt.mpr c_12), if_neg (Int.not_lt.mpr c_12)]) (by decide) (by decide)
set_option maxHeartbeats 4000000 in
set_option maxRecDepth 100000 in
theorem kX1_letOut (l : Launch) (D : va_G) (h : Nat → Nat) (c1 c2 c3 : ClassId) (th L : Int) (K Dm : Int → Int) (S : Int) (lo hi su db : Int → Int) (dy li so sp : Int) (X : Int → Int → Int) (ke se : Int → Int) (hok : okS Dm L lo hi su db S) (hl1 : 1 ≤ L) (l0 : 0 ≤ li) (l1 : li ≤ 40) : cI l yX1_letOut wsX1_letOut ({ frames := 2, cells := 0, slots := 0, locals := 44 }) D (tyS c1 c2 c3) [.ref (h 0)] (wN h c1 th L K Dm S lo hi su db dy li so sp X ke se) (wN h c1 0 (L - 1) (shf K (L - 1 + 1)) (shf Dm (L - 1 + 1)) (dS (fun j => decide (¬ 0 < lo j ∧ hi j = 0)) S S) (mix (fun j => if 0 < (dA (fun j => decide (¬ 0 < lo j ∧ hi j = 0)) cNo lo S S) j then (dA (fun j => decide (¬ 0 < lo j ∧ hi j = 0)) cNo lo S S) j - 1 else (dA (fun j => decide (¬ 0 < lo j ∧ hi j = 0)) cNo lo S S) j) (dA (fun j => decide (¬ 0 < lo j ∧ hi j = 0)) cNo lo S S) (dS (fun j => decide (¬ 0 < lo j ∧ hi j = 0)) S S)) (mix (fun j => (dA (fun j => decide (¬ 0 < lo j ∧ hi j = 0)) cNo hi S S) j - 1) (dA (fun j => decide (¬ 0 < lo j ∧ hi j = 0)) cNo hi S S) (dS (fun j => decide (¬ 0 < lo j ∧ hi j = 0)) S S)) (dA (fun j => decide (¬ 0 < lo j ∧ hi j = 0)) (cCut (fun j => decide (¬ 0 < lo j ∧ ¬ hi j = 0)) (Dm 0)) su S S) (dA (fun j => decide (¬ 0 < lo j ∧ hi j = 0)) cNo db S S) dy li (if li < Dm 0 then so else so + 1) (if li < Dm 0 then sp + 1 else sp) X ke se) (zI (Dm 0)) 0 0 := by
  refine cI.of (cc := cX1_letOut) (maxL := 1) (ret := .int) (by decide) rfl (lv := [(0, .ref (h 0))]) [0] rfl (Nat.le_of_ble_eq_true rfl) ?_
  intro p e s m args below meth c A C hr
  have C : GC p s m args meth c cX1_letOut 1 RX1 wsX1_letOut D (tyS c1 c2 c3) A := C
  have hin : ∀ w ∈ wsX10, w ∈ wsX1_letOut := fun _ h => List.mem_cons_of_mem _ (List.mem_append_right _ h)
  obtain ⟨⟨hL0, hL⟩, ⟨hS0, hS⟩, hf, hs⟩ := id hok
  refine j_aload_n (pc := 0) C dX1_letOut_0 0 rfl ?_
  refine j_iconst (pc := 1) C dX1_letOut_1 ?_
  refine j_put (pc := 2) C (ref := "GrainSiloModel") (T := TX1) (N := 16) (ws' := wN h c1 0 L K Dm S lo hi su db dy li so sp X ke se) hin tyX1 tyX1_ok nmX1 0 rfl rfl 0 (by decide) (C.w 1 rfl) rfl rfl (by decide +kernel) (Nat.le_of_ble_eq_true rfl) rfl dX1_letOut_2 ?_
  refine j_aload_n (pc := 5) C dX1_letOut_5 0 rfl ?_
  refine j_get (pc := 6) C (ref := "GrainSiloModel") (T := TX1) (N := 16) hin 0 rfl rfl 1 (by decide) (C.w 2 rfl) rfl rfl dX1_letOut_6 ?_
  refine j_if_ne (pc := 9) C 20 dX1_letOut_9 (by decide) ⟨by omega, by omega⟩ (fun c_9 => ?_) (fun c_9 => absurd c_9 (by omega))
  refine j_aload_n (pc := 20) C dX1_letOut_20 0 rfl ?_
  refine j_callI (pc := 21) C (As := []) (rest := []) (kX1_out l D h c1 c2 c3 0 L K Dm S lo hi su db dy li so sp X ke se  hok (by omega) (by omega) (by omega)) (cwV 0 C.2.2.2.2.1 gX1_letOut_X1_out rfl rfl rfl (by decide +kernel) ⟨Nat.le_of_ble_eq_true rfl, Nat.le_of_ble_eq_true rfl⟩) 0 (ci := 1) rfl rfl rfl dX1_letOut_21 rfl rfl (Nat.le_of_ble_eq_true rfl) (by decide) ?_
  exact j_iret (pc := 24) C hr dX1_letOut_24 (by rfl) (by rfl) (by decide) (by decide)
set_option maxHeartbeats 4000000 in
set_option maxRecDepth 100000 in
theorem kX1_letOut_no1 (l : Launch) (D : va_G) (h : Nat → Nat) (c1 c2 c3 : ClassId) (th L : Int) (K Dm : Int → Int) (S : Int) (lo hi su db : Int → Int) (dy li so sp : Int) (X : Int → Int → Int) (ke se : Int → Int) (hL : L = 0) : cI l yX1_letOut wsX1_letOut ({ frames := 1, cells := 0, slots := 0, locals := 21 }) D (tyS c1 c2 c3) [.ref (h 0)] (wN h c1 th L K Dm S lo hi su db dy li so sp X ke se) (wN h c1 1 L K Dm S lo hi su db dy li so sp X ke se) (zI 0) 0 0 := by
  refine cI.of (cc := cX1_letOut) (maxL := 1) (ret := .int) (by decide) rfl (lv := [(0, .ref (h 0))]) [0] rfl (Nat.le_of_ble_eq_true rfl) ?_
  intro p e s m args below meth c A C hr
  have C : GC p s m args meth c cX1_letOut 1 RX1 wsX1_letOut D (tyS c1 c2 c3) A := C
  have hin : ∀ w ∈ wsX10, w ∈ wsX1_letOut := fun _ h => List.mem_cons_of_mem _ (List.mem_append_right _ h)
  refine j_aload_n (pc := 0) C dX1_letOut_0 0 rfl ?_
  refine j_iconst (pc := 1) C dX1_letOut_1 ?_
  refine j_put (pc := 2) C (ref := "GrainSiloModel") (T := TX1) (N := 16) (ws' := wN h c1 0 L K Dm S lo hi su db dy li so sp X ke se) hin tyX1 tyX1_ok nmX1 0 rfl rfl 0 (by decide) (C.w 1 rfl) rfl rfl (by decide +kernel) (Nat.le_of_ble_eq_true rfl) rfl dX1_letOut_2 ?_
  refine j_aload_n (pc := 5) C dX1_letOut_5 0 rfl ?_
  refine j_get (pc := 6) C (ref := "GrainSiloModel") (T := TX1) (N := 16) hin 0 rfl rfl 1 (by decide) (C.w 2 rfl) rfl rfl dX1_letOut_6 ?_
  refine j_if_ne (pc := 9) C 20 dX1_letOut_9 (by decide) ⟨by omega, by omega⟩ (fun c_9 => absurd c_9 (by omega)) (fun c_9 => ?_)
  refine j_aload_n (pc := 12) C dX1_letOut_12 0 rfl ?_
  refine j_iconst (pc := 13) C dX1_letOut_13 ?_
  refine j_callI (pc := 14) C (As := [.int (zI 1)]) (rest := []) (kX1_no l D h c1 c2 c3 0 L K Dm S lo hi su db dy li so sp X ke se 1 ) (cwV 1 C.2.2.2.2.1 gX1_letOut_X1_no rfl rfl rfl (by decide +kernel) ⟨Nat.le_of_ble_eq_true rfl, Nat.le_of_ble_eq_true rfl⟩) 0 (ci := 1) rfl rfl rfl dX1_letOut_14 rfl rfl (Nat.le_of_ble_eq_true rfl) (by decide) ?_
  refine j_goto (pc := 17) C 24 dX1_letOut_17 (by decide) ?_
  exact j_iret (pc := 24) C hr dX1_letOut_24 (by rfl) (by rfl) (by decide) (by decide)
set_option maxHeartbeats 4000000 in
set_option maxRecDepth 100000 in
theorem kX1_turnOver (l : Launch) (D : va_G) (h : Nat → Nat) (c1 c2 c3 : ClassId) (th L : Int) (K Dm : Int → Int) (S : Int) (lo hi su db : Int → Int) (dy li so sp : Int) (X : Int → Int → Int) (ke se : Int → Int) (hok : okS Dm L lo hi su db S) (hl1 : 2 ≤ L) : cI l yX1_turnOver wsX1_turnOver ({ frames := 1, cells := 0, slots := 0, locals := 22 }) D (tyS c1 c2 c3) [.ref (h 0)] (wN h c1 th L K Dm S lo hi su db dy li so sp X ke se) (wN h c1 0 L (upZ (shf K (L - 1 + 1)) (L - 1) (K 0)) (upZ (shf Dm (L - 1 + 1)) (L - 1) (Dm 0)) (dS (fun j => decide (lo j = 0)) S S) (mix (fun j => if 0 < (dA (fun j => decide (lo j = 0)) cNo lo S S) j then (dA (fun j => decide (lo j = 0)) cNo lo S S) j - 1 else (dA (fun j => decide (lo j = 0)) cNo lo S S) j) (dA (fun j => decide (lo j = 0)) cNo lo S S) (dS (fun j => decide (lo j = 0)) S S)) (mix (fun j => (dA (fun j => decide (lo j = 0)) cNo hi S S) j - 1) (dA (fun j => decide (lo j = 0)) cNo hi S S) (dS (fun j => decide (lo j = 0)) S S)) (dA (fun j => decide (lo j = 0)) cNo su S S) (dA (fun j => decide (lo j = 0)) cNo db S S) dy li so sp X ke se) (zI (S - (dS (fun j => decide (lo j = 0)) S S))) 0 0 := by
  refine cI.of (cc := cX1_turnOver) (maxL := 5) (ret := .int) (by decide) rfl (lv := [(0, .ref (h 0))]) [0] rfl (Nat.le_of_ble_eq_true rfl) ?_
  intro p e s m args below meth c A C hr
  have C : GC p s m args meth c cX1_turnOver 5 RX1 wsX1_turnOver D (tyS c1 c2 c3) A := C
  have hin : ∀ w ∈ wsX10, w ∈ wsX1_turnOver := fun _ h => List.mem_cons_of_mem _ (List.mem_append_right _ h)
  obtain ⟨⟨hL0, hL⟩, ⟨hS0, hS⟩, hf, hs⟩ := id hok
  have z1 := dS_in (fun j => decide (lo j = 0)) S S hS0
  have z2 := dA_all (fun j => decide (lo j = 0)) lo S (fun v => 0 ≤ v ∧ v ≤ 12) (fun j j0 j1 => by have := hs j j0 j1; omega) S hS0 (Int.le_refl _)
  refine j_aload_n (pc := 0) C dX1_turnOver_0 0 rfl ?_
  refine j_iconst (pc := 1) C dX1_turnOver_1 ?_
  refine j_put (pc := 2) C (ref := "GrainSiloModel") (T := TX1) (N := 16) (ws' := wN h c1 0 L K Dm S lo hi su db dy li so sp X ke se) hin tyX1 tyX1_ok nmX1 0 rfl rfl 0 (by decide) (C.w 1 rfl) rfl rfl (by decide +kernel) (Nat.le_of_ble_eq_true rfl) rfl dX1_turnOver_2 ?_
  refine j_aload_n (pc := 5) C dX1_turnOver_5 0 rfl ?_
  refine j_get (pc := 6) C (ref := "GrainSiloModel") (T := TX1) (N := 16) hin 0 rfl rfl 1 (by decide) (C.w 2 rfl) rfl rfl dX1_turnOver_6 ?_
  refine j_iconst (pc := 9) C dX1_turnOver_9 ?_
  refine j_icmp_ge (pc := 10) C 19 dX1_turnOver_10 (by decide) ⟨by omega, by omega⟩ ⟨by omega, by omega⟩ (fun c_10 => ?_) (fun c_10 => absurd c_10 (by omega))
  refine j_aload_n (pc := 19) C dX1_turnOver_19 0 rfl ?_
  refine j_get (pc := 20) C (ref := "GrainSiloModel") (T := TX1) (N := 16) hin 0 rfl rfl 3 (by decide) (C.w 3 rfl) rfl rfl dX1_turnOver_20 ?_
  refine j_iconst (pc := 23) C dX1_turnOver_23 ?_
  refine j_iald (pc := 24) C 2 0 rfl rfl (by omega) (by omega) (by decide) dX1_turnOver_24 ?_
  refine j_istore_n (pc := 25) C (lv' := [(0, .ref (h 0)), (1, .int (zI (Dm 0)))]) dX1_turnOver_25 (by decide) [1, 0] rfl ?_
  refine j_aload_n (pc := 26) C dX1_turnOver_26 0 rfl ?_
  refine j_get (pc := 27) C (ref := "GrainSiloModel") (T := TX1) (N := 16) hin 0 rfl rfl 2 (by decide) (C.w 4 rfl) rfl rfl dX1_turnOver_27 ?_
  refine j_iconst (pc := 30) C dX1_turnOver_30 ?_
  refine j_iald (pc := 31) C 1 0 rfl rfl (by omega) (by omega) (by decide) dX1_turnOver_31 ?_
  refine j_istore_n (pc := 32) C (lv' := [(0, .ref (h 0)), (1, .int (zI (Dm 0))), (2, .int (zI (K 0)))]) dX1_turnOver_32 (by decide) [1, 2, 0] rfl ?_
  refine j_aload_n (pc := 33) C dX1_turnOver_33 0 rfl ?_
  refine j_get (pc := 34) C (ref := "GrainSiloModel") (T := TX1) (N := 16) hin 0 rfl rfl 4 (by decide) (C.w 5 rfl) rfl rfl dX1_turnOver_34 ?_
  refine j_istore_n (pc := 37) C (lv' := [(0, .ref (h 0)), (1, .int (zI (Dm 0))), (2, .int (zI (K 0))), (3, .int (zI S))]) dX1_turnOver_37 (by decide) [1, 2, 3, 0] rfl ?_
  refine j_aload_n (pc := 38) C dX1_turnOver_38 0 rfl ?_
  refine j_get (pc := 39) C (ref := "GrainSiloModel") (T := TX1) (N := 16) hin 0 rfl rfl 4 (by decide) (C.w 5 rfl) rfl rfl dX1_turnOver_39 ?_
  refine j_iconst (pc := 42) C dX1_turnOver_42 ?_
  refine j_isub (pc := 43) C dX1_turnOver_43 ?_
  refine j_istore (pc := 44) C (lv' := [(0, .ref (h 0)), (1, .int (zI (Dm 0))), (2, .int (zI (K 0))), (3, .int (zI S)), (4, .int (zI (S - 1)))]) dX1_turnOver_44 (by decide) [1, 2, 3, 4, 0] rfl ?_
  refine J.cast (ws' := wN h c1 0 L K Dm (dS (fun j => decide (lo j = 0)) S 0) (dA (fun j => decide (lo j = 0)) cNo lo S 0) (dA (fun j => decide (lo j = 0)) cNo hi S 0) (dA (fun j => decide (lo j = 0)) cNo su S 0) (dA (fun j => decide (lo j = 0)) cNo db S 0) dy li so sp X ke se) (lv' := [(0, .ref (h 0)), (1, .int (zI (Dm 0))), (2, .int (zI (K 0))), (3, .int (zI S)), (4, .int (zI (S - 1 - 0)))]) ?_ (by rfl) (by rw [Int.sub_zero]) rfl
  refine j_up (fun t : Int => wN h c1 0 L K Dm (dS (fun j => decide (lo j = 0)) S t) (dA (fun j => decide (lo j = 0)) cNo lo S t) (dA (fun j => decide (lo j = 0)) cNo hi S t) (dA (fun j => decide (lo j = 0)) cNo su S t) (dA (fun j => decide (lo j = 0)) cNo db S t) dy li so sp X ke se) (fun t : Int => [(0, .ref (h 0)), (1, .int (zI (Dm 0))), (2, .int (zI (K 0))), (3, .int (zI S)), (4, .int (zI (S - 1 - t)))]) (fun t : Int => True) 0 S (by omega) trivial ?_ ?_
  · intro t h0_46 h1_46 hI_46 hk_46
    try dsimp only at hI_46 hk_46 ⊢
    have z3 := dS_in (fun j => decide (lo j = 0)) S t h0_46
    obtain ⟨s1, s2, s3, s4, s5, s6, s7⟩ := hs (S - 1 - t) (by omega) (by omega)
    have r_lo : dA (fun j => decide (lo j = 0)) cNo lo S t (S - 1 - t) = lo (S - 1 - t) := dA_lt _ _ cNo_lt _ S t h0_46 _ (by omega)
    refine j_iload (pc := 46) C dX1_turnOver_46 4 rfl ?_
    refine j_if_lt (pc := 48) C 73 dX1_turnOver_48 (by decide) ⟨by omega, by omega⟩ (fun c_48 => absurd c_48 (by omega)) (fun c_48 => ?_)
    refine j_aload_n (pc := 51) C dX1_turnOver_51 0 rfl ?_
    refine j_get (pc := 52) C (ref := "GrainSiloModel") (T := TX1) (N := 16) hin 0 rfl rfl 5 (by decide) (C.w 6 rfl) rfl rfl dX1_turnOver_52 ?_
    refine j_iload (pc := 55) C dX1_turnOver_55 4 rfl ?_
    refine j_iald (pc := 57) C 3 0 rfl rfl (by omega) (by omega) (by decide) dX1_turnOver_57 ?_
    refine j_if_ne (pc := 58) C 67 dX1_turnOver_58 (by decide) ⟨by omega, by omega⟩ (fun c_58 => ?_) (fun c_58 => ?_)
    · skip
      have eP : (fun j => decide (lo j = 0)) (S - 1 - t) = false := decide_eq_false (by omega)
      refine j_iinc (pc := 67) C (lv' := [(0, .ref (h 0)), (1, .int (zI (Dm 0))), (2, .int (zI (K 0))), (3, .int (zI S)), (4, .int (zI (S - 1 - t + (-1))))]) dX1_turnOver_67 4 rfl (by decide) [1, 2, 3, 4, 0] rfl ?_
      refine j_goto (pc := 70) C 46 dX1_turnOver_70 (by decide) ?_
      exact J.cast (hk_46 trivial) (by first | (rw [dS_f (fun j => decide (lo j = 0)) S t h0_46 eP, dA_f (fun j => decide (lo j = 0)) cNo lo S t h0_46 eP, dA_f (fun j => decide (lo j = 0)) cNo hi S t h0_46 eP, dA_f (fun j => decide (lo j = 0)) cNo su S t h0_46 eP, dA_f (fun j => decide (lo j = 0)) cNo db S t h0_46 eP]; try rfl) | rw [dS_t (fun j => decide (lo j = 0)) S t h0_46 eP, dA_t (fun j => decide (lo j = 0)) cNo lo S t h0_46 eP, dA_t (fun j => decide (lo j = 0)) cNo hi S t h0_46 eP, dA_t (fun j => decide (lo j = 0)) cNo su S t h0_46 eP, dA_t (fun j => decide (lo j = 0)) cNo db S t h0_46 eP]) (by rw [show S - 1 - (t + 1) = S - 1 - t + (-1) by omega]) rfl
    · skip
      have eP : (fun j => decide (lo j = 0)) (S - 1 - t) = true := decide_eq_true (by omega)
      refine j_aload_n (pc := 61) C dX1_turnOver_61 0 rfl ?_
      refine j_iload (pc := 62) C dX1_turnOver_62 4 rfl ?_
      refine j_callV (pc := 64) C (As := [.int (zI (S - 1 - t))]) (rest := []) (kX1_drop l D h c1 c2 c3 0 L K Dm (dS (fun j => decide (lo j = 0)) S t) (dA (fun j => decide (lo j = 0)) cNo lo S t) (dA (fun j => decide (lo j = 0)) cNo hi S t) (dA (fun j => decide (lo j = 0)) cNo su S t) (dA (fun j => decide (lo j = 0)) cNo db S t) dy li so sp X ke se (S - 1 - t) (by omega) (by omega) (by omega)) (cwV 1 C.2.2.2.2.1 gX1_turnOver_X1_drop rfl rfl rfl (by decide +kernel) ⟨Nat.le_of_ble_eq_true rfl, Nat.le_of_ble_eq_true rfl⟩) 0 (ci := 1) rfl rfl rfl dX1_turnOver_64 rfl rfl (Nat.le_of_ble_eq_true rfl) (by decide) ?_
      refine j_iinc (pc := 67) C (lv' := [(0, .ref (h 0)), (1, .int (zI (Dm 0))), (2, .int (zI (K 0))), (3, .int (zI S)), (4, .int (zI (S - 1 - t + (-1))))]) dX1_turnOver_67 4 rfl (by decide) [1, 2, 3, 4, 0] rfl ?_
      refine j_goto (pc := 70) C 46 dX1_turnOver_70 (by decide) ?_
      exact J.cast (hk_46 trivial) (by first | (rw [dS_f (fun j => decide (lo j = 0)) S t h0_46 eP, dA_f (fun j => decide (lo j = 0)) cNo lo S t h0_46 eP, dA_f (fun j => decide (lo j = 0)) cNo hi S t h0_46 eP, dA_f (fun j => decide (lo j = 0)) cNo su S t h0_46 eP, dA_f (fun j => decide (lo j = 0)) cNo db S t h0_46 eP]; try rfl) | rw [dS_t (fun j => decide (lo j = 0)) S t h0_46 eP, dA_t (fun j => decide (lo j = 0)) cNo lo S t h0_46 eP, dA_t (fun j => decide (lo j = 0)) cNo hi S t h0_46 eP, dA_t (fun j => decide (lo j = 0)) cNo su S t h0_46 eP, dA_t (fun j => decide (lo j = 0)) cNo db S t h0_46 eP]) (by rw [show S - 1 - (t + 1) = S - 1 - t + (-1) by omega]) rfl
  · intro hI_46
    try dsimp only at hI_46 ⊢
    refine j_iload (pc := 46) C dX1_turnOver_46 4 rfl ?_
    refine j_if_lt (pc := 48) C 73 dX1_turnOver_48 (by decide) ⟨by omega, by omega⟩ (fun c_48 => ?_) (fun c_48 => absurd c_48 (by omega))
    refine j_aload_n (pc := 73) C dX1_turnOver_73 0 rfl ?_
    refine j_callV (pc := 74) C (As := []) (rest := []) (kX1_sink l D h c1 c2 c3 0 L K Dm (dS (fun j => decide (lo j = 0)) S S) (dA (fun j => decide (lo j = 0)) cNo lo S S) (dA (fun j => decide (lo j = 0)) cNo hi S S) (dA (fun j => decide (lo j = 0)) cNo su S S) (dA (fun j => decide (lo j = 0)) cNo db S S) dy li so sp X ke se  (by omega) (by omega) (by omega) (by omega) z2) (cwV 0 C.2.2.2.2.1 gX1_turnOver_X1_sink rfl rfl rfl (by decide +kernel) ⟨Nat.le_of_ble_eq_true rfl, Nat.le_of_ble_eq_true rfl⟩) 0 (ci := 1) rfl rfl rfl dX1_turnOver_74 rfl rfl (Nat.le_of_ble_eq_true rfl) (by decide) ?_
    refine j_aload_n (pc := 77) C dX1_turnOver_77 0 rfl ?_
    refine j_get (pc := 78) C (ref := "GrainSiloModel") (T := TX1) (N := 16) hin 0 rfl rfl 3 (by decide) (C.w 3 rfl) rfl rfl dX1_turnOver_78 ?_
    refine j_aload_n (pc := 81) C dX1_turnOver_81 0 rfl ?_
    refine j_get (pc := 82) C (ref := "GrainSiloModel") (T := TX1) (N := 16) hin 0 rfl rfl 1 (by decide) (C.w 2 rfl) rfl rfl dX1_turnOver_82 ?_
    refine j_iconst (pc := 85) C dX1_turnOver_85 ?_
    refine j_isub (pc := 86) C dX1_turnOver_86 ?_
    refine j_iload_n (pc := 87) C dX1_turnOver_87 1 rfl ?_
    refine j_iast (pc := 88) C 2 0 rfl rfl (by omega) (by omega) (by decide) (ws' := wN h c1 0 L (shf K (L - 1 + 1)) (upZ (shf Dm (L - 1 + 1)) (L - 1) (Dm 0)) (dS (fun j => decide (lo j = 0)) S S) (mix (fun j => if 0 < (dA (fun j => decide (lo j = 0)) cNo lo S S) j then (dA (fun j => decide (lo j = 0)) cNo lo S S) j - 1 else (dA (fun j => decide (lo j = 0)) cNo lo S S) j) (dA (fun j => decide (lo j = 0)) cNo lo S S) (dS (fun j => decide (lo j = 0)) S S)) (mix (fun j => (dA (fun j => decide (lo j = 0)) cNo hi S S) j - 1) (dA (fun j => decide (lo j = 0)) cNo hi S S) (dS (fun j => decide (lo j = 0)) S S)) (dA (fun j => decide (lo j = 0)) cNo su S S) (dA (fun j => decide (lo j = 0)) cNo db S S) dy li so sp X ke se) rfl dX1_turnOver_88 ?_
    refine j_aload_n (pc := 89) C dX1_turnOver_89 0 rfl ?_
    refine j_get (pc := 90) C (ref := "GrainSiloModel") (T := TX1) (N := 16) hin 0 rfl rfl 2 (by decide) (C.w 4 rfl) rfl rfl dX1_turnOver_90 ?_
    refine j_aload_n (pc := 93) C dX1_turnOver_93 0 rfl ?_
    refine j_get (pc := 94) C (ref := "GrainSiloModel") (T := TX1) (N := 16) hin 0 rfl rfl 1 (by decide) (C.w 2 rfl) rfl rfl dX1_turnOver_94 ?_
    refine j_iconst (pc := 97) C dX1_turnOver_97 ?_
    refine j_isub (pc := 98) C dX1_turnOver_98 ?_
    refine j_iload_n (pc := 99) C dX1_turnOver_99 2 rfl ?_
    refine j_iast (pc := 100) C 1 0 rfl rfl (by omega) (by omega) (by decide) (ws' := wN h c1 0 L (upZ (shf K (L - 1 + 1)) (L - 1) (K 0)) (upZ (shf Dm (L - 1 + 1)) (L - 1) (Dm 0)) (dS (fun j => decide (lo j = 0)) S S) (mix (fun j => if 0 < (dA (fun j => decide (lo j = 0)) cNo lo S S) j then (dA (fun j => decide (lo j = 0)) cNo lo S S) j - 1 else (dA (fun j => decide (lo j = 0)) cNo lo S S) j) (dA (fun j => decide (lo j = 0)) cNo lo S S) (dS (fun j => decide (lo j = 0)) S S)) (mix (fun j => (dA (fun j => decide (lo j = 0)) cNo hi S S) j - 1) (dA (fun j => decide (lo j = 0)) cNo hi S S) (dS (fun j => decide (lo j = 0)) S S)) (dA (fun j => decide (lo j = 0)) cNo su S S) (dA (fun j => decide (lo j = 0)) cNo db S S) dy li so sp X ke se) rfl dX1_turnOver_100 ?_
    refine j_iload_n (pc := 101) C dX1_turnOver_101 3 rfl ?_
    refine j_aload_n (pc := 102) C dX1_turnOver_102 0 rfl ?_
    refine j_get (pc := 103) C (ref := "GrainSiloModel") (T := TX1) (N := 16) hin 0 rfl rfl 4 (by decide) (C.w 5 rfl) rfl rfl dX1_turnOver_103 ?_
    refine j_isub (pc := 106) C dX1_turnOver_106 ?_
    exact j_iret (pc := 107) C hr dX1_turnOver_107 (by rfl) (by rfl) (by decide) (by decide)
set_option maxHeartbeats 4000000 in
set_option maxRecDepth 100000 in
theorem kX1_turnOver_no1 (l : Launch) (D : va_G) (h : Nat → Nat) (c1 c2 c3 : ClassId) (th L : Int) (K Dm : Int → Int) (S : Int) (lo hi su db : Int → Int) (dy li so sp : Int) (X : Int → Int → Int) (ke se : Int → Int) (hL0 : 0 ≤ L) (hL : L < 2) : cI l yX1_turnOver wsX1_turnOver ({ frames := 1, cells := 0, slots := 0, locals := 21 }) D (tyS c1 c2 c3) [.ref (h 0)] (wN h c1 th L K Dm S lo hi su db dy li so sp X ke se) (wN h c1 1 L K Dm S lo hi su db dy li so sp X ke se) (zI 0) 0 0 := by
  refine cI.of (cc := cX1_turnOver) (maxL := 5) (ret := .int) (by decide) rfl (lv := [(0, .ref (h 0))]) [0] rfl (Nat.le_of_ble_eq_true rfl) ?_
  intro p e s m args below meth c A C hr
  have C : GC p s m args meth c cX1_turnOver 5 RX1 wsX1_turnOver D (tyS c1 c2 c3) A := C
  have hin : ∀ w ∈ wsX10, w ∈ wsX1_turnOver := fun _ h => List.mem_cons_of_mem _ (List.mem_append_right _ h)
  refine j_aload_n (pc := 0) C dX1_turnOver_0 0 rfl ?_
  refine j_iconst (pc := 1) C dX1_turnOver_1 ?_
  refine j_put (pc := 2) C (ref := "GrainSiloModel") (T := TX1) (N := 16) (ws' := wN h c1 0 L K Dm S lo hi su db dy li so sp X ke se) hin tyX1 tyX1_ok nmX1 0 rfl rfl 0 (by decide) (C.w 1 rfl) rfl rfl (by decide +kernel) (Nat.le_of_ble_eq_true rfl) rfl dX1_turnOver_2 ?_
  refine j_aload_n (pc := 5) C dX1_turnOver_5 0 rfl ?_
  refine j_get (pc := 6) C (ref := "GrainSiloModel") (T := TX1) (N := 16) hin 0 rfl rfl 1 (by decide) (C.w 2 rfl) rfl rfl dX1_turnOver_6 ?_
  refine j_iconst (pc := 9) C dX1_turnOver_9 ?_
  refine j_icmp_ge (pc := 10) C 19 dX1_turnOver_10 (by decide) ⟨by omega, by omega⟩ ⟨by omega, by omega⟩ (fun c_10 => absurd c_10 (by omega)) (fun c_10 => ?_)
  refine j_aload_n (pc := 13) C dX1_turnOver_13 0 rfl ?_
  refine j_iconst (pc := 14) C dX1_turnOver_14 ?_
  refine j_callI (pc := 15) C (As := [.int (zI 1)]) (rest := []) (kX1_no l D h c1 c2 c3 0 L K Dm S lo hi su db dy li so sp X ke se 1 ) (cwV 1 C.2.2.2.2.1 gX1_turnOver_X1_no rfl rfl rfl (by decide +kernel) ⟨Nat.le_of_ble_eq_true rfl, Nat.le_of_ble_eq_true rfl⟩) 0 (ci := 1) rfl rfl rfl dX1_turnOver_15 rfl rfl (Nat.le_of_ble_eq_true rfl) (by decide) ?_
  exact j_iret (pc := 18) C hr dX1_turnOver_18 (by rfl) (by rfl) (by decide) (by decide)
set_option maxHeartbeats 4000000 in
set_option maxRecDepth 100000 in
theorem kX1_setLimit (l : Launch) (D : va_G) (h : Nat → Nat) (c1 c2 c3 : ClassId) (th L : Int) (K Dm : Int → Int) (S : Int) (lo hi su db : Int → Int) (dy li so sp : Int) (X : Int → Int → Int) (ke se : Int → Int) (a : Int) (h0 : 0 ≤ a) (h1 : a ≤ 40) : cI l yX1_setLimit wsX1_setLimit ({ frames := 1, cells := 0, slots := 0, locals := 22 }) D (tyS c1 c2 c3) [.ref (h 0), .int (zI a)] (wN h c1 th L K Dm S lo hi su db dy li so sp X ke se) (wN h c1 0 L K Dm S lo hi su db dy a so sp X ke se) (zI li) 0 0 := by
  refine cI.of (cc := cX1_setLimit) (maxL := 3) (ret := .int) (by decide) rfl (lv := [(0, .ref (h 0)), (1, .int (zI a))]) [0, 1] rfl (Nat.le_of_ble_eq_true rfl) ?_
  intro p e s m args below meth c A C hr
  have C : GC p s m args meth c cX1_setLimit 3 RX1 wsX1_setLimit D (tyS c1 c2 c3) A := C
  have hin : ∀ w ∈ wsX10, w ∈ wsX1_setLimit := fun _ h => List.mem_cons_of_mem _ (List.mem_append_right _ h)
  refine j_aload_n (pc := 0) C dX1_setLimit_0 0 rfl ?_
  refine j_iconst (pc := 1) C dX1_setLimit_1 ?_
  refine j_put (pc := 2) C (ref := "GrainSiloModel") (T := TX1) (N := 16) (ws' := wN h c1 0 L K Dm S lo hi su db dy li so sp X ke se) hin tyX1 tyX1_ok nmX1 0 rfl rfl 0 (by decide) (C.w 1 rfl) rfl rfl (by decide +kernel) (Nat.le_of_ble_eq_true rfl) rfl dX1_setLimit_2 ?_
  refine j_iload_n (pc := 5) C dX1_setLimit_5 1 rfl ?_
  refine j_iconst (pc := 6) C dX1_setLimit_6 ?_
  refine j_bipush (pc := 7) C dX1_setLimit_7 (by decide +kernel) ?_
  refine j_callSI (pc := 9) C (As := [.int (zI a), .int (zI 0), .int (zI 40)]) (rest := []) (kX1_isIn l D c1 c2 c3 a 0 40 ⟨by omega, by omega⟩ ⟨by omega, by omega⟩ ⟨by omega, by omega⟩) (va_cwS 3 C.2.2.2.2.1 gX1_setLimit_X1_isIn rfl rfl rfl (by decide +kernel) ⟨Nat.le_of_ble_eq_true rfl, Nat.le_of_ble_eq_true rfl⟩) dX1_setLimit_9 rfl rfl (Nat.le_of_ble_eq_true rfl) (by decide) ?_
  refine j_if_ne (pc := 12) C 21 dX1_setLimit_12 (by decide) ⟨by omega, by omega⟩ (fun c_12 => ?_) (fun c_12 => absurd c_12 (by omega))
  refine j_aload_n (pc := 21) C dX1_setLimit_21 0 rfl ?_
  refine j_get (pc := 22) C (ref := "GrainSiloModel") (T := TX1) (N := 16) hin 0 rfl rfl 10 (by decide) (C.w 2 rfl) rfl rfl dX1_setLimit_22 ?_
  refine j_istore_n (pc := 25) C (lv' := [(0, .ref (h 0)), (1, .int (zI a)), (2, .int (zI li))]) dX1_setLimit_25 (by decide) [1, 2, 0] rfl ?_
  refine j_aload_n (pc := 26) C dX1_setLimit_26 0 rfl ?_
  refine j_iload_n (pc := 27) C dX1_setLimit_27 1 rfl ?_
  refine j_put (pc := 28) C (ref := "GrainSiloModel") (T := TX1) (N := 16) (ws' := wN h c1 0 L K Dm S lo hi su db dy a so sp X ke se) hin tyX1 tyX1_ok nmX1 0 rfl rfl 10 (by decide) (C.w 2 rfl) rfl rfl (by decide +kernel) (Nat.le_of_ble_eq_true rfl) rfl dX1_setLimit_28 ?_
  refine j_iload_n (pc := 31) C dX1_setLimit_31 2 rfl ?_
  exact j_iret (pc := 32) C hr dX1_setLimit_32 (by rfl) (by rfl) (by decide) (by decide)
set_option maxHeartbeats 4000000 in
set_option maxRecDepth 100000 in
theorem kX1_setLimit_no1 (l : Launch) (D : va_G) (h : Nat → Nat) (c1 c2 c3 : ClassId) (th L : Int) (K Dm : Int → Int) (S : Int) (lo hi su db : Int → Int) (dy li so sp : Int) (X : Int → Int → Int) (ke se : Int → Int) (a : Int) (ha : zR a) (hn : ¬ (0 ≤ a ∧ a ≤ 40)) : cI l yX1_setLimit wsX1_setLimit ({ frames := 1, cells := 0, slots := 0, locals := 22 }) D (tyS c1 c2 c3) [.ref (h 0), .int (zI a)] (wN h c1 th L K Dm S lo hi su db dy li so sp X ke se) (wN h c1 1 L K Dm S lo hi su db dy li so sp X ke se) (zI 0) 0 0 := by
  refine cI.of (cc := cX1_setLimit) (maxL := 3) (ret := .int) (by decide) rfl (lv := [(0, .ref (h 0)), (1, .int (zI a))]) [0, 1] rfl (Nat.le_of_ble_eq_true rfl) ?_
  intro p e s m args below meth c A C hr
  have C : GC p s m args meth c cX1_setLimit 3 RX1 wsX1_setLimit D (tyS c1 c2 c3) A := C
  have hin : ∀ w ∈ wsX10, w ∈ wsX1_setLimit := fun _ h => List.mem_cons_of_mem _ (List.mem_append_right _ h)
  obtain ⟨ha1, ha2⟩ := ha
  refine j_aload_n (pc := 0) C dX1_setLimit_0 0 rfl ?_
  refine j_iconst (pc := 1) C dX1_setLimit_1 ?_
  refine j_put (pc := 2) C (ref := "GrainSiloModel") (T := TX1) (N := 16) (ws' := wN h c1 0 L K Dm S lo hi su db dy li so sp X ke se) hin tyX1 tyX1_ok nmX1 0 rfl rfl 0 (by decide) (C.w 1 rfl) rfl rfl (by decide +kernel) (Nat.le_of_ble_eq_true rfl) rfl dX1_setLimit_2 ?_
  refine j_iload_n (pc := 5) C dX1_setLimit_5 1 rfl ?_
  refine j_iconst (pc := 6) C dX1_setLimit_6 ?_
  refine j_bipush (pc := 7) C dX1_setLimit_7 (by decide +kernel) ?_
  refine j_callSI (pc := 9) C (As := [.int (zI a), .int (zI 0), .int (zI 40)]) (rest := []) (kX1_isIn l D c1 c2 c3 a 0 40 ⟨by omega, by omega⟩ ⟨by omega, by omega⟩ ⟨by omega, by omega⟩) (va_cwS 3 C.2.2.2.2.1 gX1_setLimit_X1_isIn rfl rfl rfl (by decide +kernel) ⟨Nat.le_of_ble_eq_true rfl, Nat.le_of_ble_eq_true rfl⟩) dX1_setLimit_9 rfl rfl (Nat.le_of_ble_eq_true rfl) (by decide) ?_
  refine j_if_ne (pc := 12) C 21 dX1_setLimit_12 (by decide) ⟨by omega, by omega⟩ (fun c_12 => absurd c_12 (by omega)) (fun c_12 => ?_)
  refine j_aload_n (pc := 15) C dX1_setLimit_15 0 rfl ?_
  refine j_iconst (pc := 16) C dX1_setLimit_16 ?_
  refine j_callI (pc := 17) C (As := [.int (zI 1)]) (rest := []) (kX1_no l D h c1 c2 c3 0 L K Dm S lo hi su db dy li so sp X ke se 1 ) (cwV 1 C.2.2.2.2.1 gX1_setLimit_X1_no rfl rfl rfl (by decide +kernel) ⟨Nat.le_of_ble_eq_true rfl, Nat.le_of_ble_eq_true rfl⟩) 0 (ci := 1) rfl rfl rfl dX1_setLimit_17 rfl rfl (Nat.le_of_ble_eq_true rfl) (by decide) ?_
  exact j_iret (pc := 20) C hr dX1_setLimit_20 (by rfl) (by rfl) (by decide) (by decide)
set_option maxHeartbeats 4000000 in
set_option maxRecDepth 100000 in
theorem kX1_pass (l : Launch) (D : va_G) (h : Nat → Nat) (c1 c2 c3 : ClassId) (th L : Int) (K Dm : Int → Int) (S : Int) (lo hi su db : Int → Int) (dy li so sp : Int) (X : Int → Int → Int) (ke se : Int → Int) (a : Int) (hok : okS Dm L lo hi su db S) (h0 : 1 ≤ a) (h1 : a ≤ 50) : cI l yX1_pass wsX1_pass ({ frames := 4, cells := 0, slots := 0, locals := 88 }) D (tyS c1 c2 c3) [.ref (h 0), .int (zI a)] (wN h c1 th L K Dm S lo hi su db dy li so sp X ke se) (wN h c1 0 L K (dayF Dm L a) S lo hi su (mix (fun j => db j + a * (hi j - lo j + 1)) db S) (dy + a) li so sp X ke (dayT Dm L se a)) (zI (dayC Dm L a)) 0 0 := by
  refine cI.of (cc := cX1_pass) (maxL := 4) (ret := .int) (by decide) rfl (lv := [(0, .ref (h 0)), (1, .int (zI a))]) [0, 1] rfl (Nat.le_of_ble_eq_true rfl) ?_
  intro p e s m args below meth c A C hr
  have C : GC p s m args meth c cX1_pass 4 RX1 wsX1_pass D (tyS c1 c2 c3) A := C
  have hin : ∀ w ∈ wsX10, w ∈ wsX1_pass := fun _ h => List.mem_cons_of_mem _ (List.mem_append_right _ h)
  obtain ⟨⟨hL0, hL⟩, ⟨hS0, hS⟩, hf, hs⟩ := id hok
  refine j_aload_n (pc := 0) C dX1_pass_0 0 rfl ?_
  refine j_iconst (pc := 1) C dX1_pass_1 ?_
  refine j_put (pc := 2) C (ref := "GrainSiloModel") (T := TX1) (N := 16) (ws' := wN h c1 0 L K Dm S lo hi su db dy li so sp X ke se) hin tyX1 tyX1_ok nmX1 0 rfl rfl 0 (by decide) (C.w 1 rfl) rfl rfl (by decide +kernel) (Nat.le_of_ble_eq_true rfl) rfl dX1_pass_2 ?_
  refine j_iload_n (pc := 5) C dX1_pass_5 1 rfl ?_
  refine j_iconst (pc := 6) C dX1_pass_6 ?_
  refine j_bipush (pc := 7) C dX1_pass_7 (by decide +kernel) ?_
  refine j_callSI (pc := 9) C (As := [.int (zI a), .int (zI 1), .int (zI 50)]) (rest := []) (kX1_isIn l D c1 c2 c3 a 1 50 ⟨by omega, by omega⟩ ⟨by omega, by omega⟩ ⟨by omega, by omega⟩) (va_cwS 3 C.2.2.2.2.1 gX1_pass_X1_isIn rfl rfl rfl (by decide +kernel) ⟨Nat.le_of_ble_eq_true rfl, Nat.le_of_ble_eq_true rfl⟩) dX1_pass_9 rfl rfl (Nat.le_of_ble_eq_true rfl) (by decide) ?_
  refine j_if_ne (pc := 12) C 21 dX1_pass_12 (by decide) ⟨by omega, by omega⟩ (fun c_12 => ?_) (fun c_12 => absurd c_12 (by omega))
  refine j_iconst (pc := 21) C dX1_pass_21 ?_
  refine j_istore_n (pc := 22) C (lv' := [(0, .ref (h 0)), (1, .int (zI a)), (2, .int (zI 0))]) dX1_pass_22 (by decide) [1, 2, 0] rfl ?_
  refine j_iconst (pc := 23) C dX1_pass_23 ?_
  refine j_istore_n (pc := 24) C (lv' := [(0, .ref (h 0)), (1, .int (zI a)), (2, .int (zI 0)), (3, .int (zI 0))]) dX1_pass_24 (by decide) [1, 2, 3, 0] rfl ?_
  refine J.cast (ws' := wN h c1 0 L K (dayF Dm L 0) S lo hi su db dy li so sp X ke (dayT Dm L se 0)) (lv' := [(0, .ref (h 0)), (1, .int (zI a)), (2, .int (zI (dayC Dm L 0))), (3, .int (zI 0))]) ?_ (by rfl) (by rw [dayC_0]) rfl
  refine j_up (fun i : Int => wN h c1 0 L K (dayF Dm L i) S lo hi su db dy li so sp X ke (dayT Dm L se i)) (fun i : Int => [(0, .ref (h 0)), (1, .int (zI a)), (2, .int (zI (dayC Dm L i))), (3, .int (zI i))]) (fun i : Int => True) 0 a (by omega) trivial ?_ ?_
  · intro i h0_25 h1_25 hI_25 hk_25
    try dsimp only at hI_25 hk_25 ⊢
    refine j_iload_n (pc := 25) C dX1_pass_25 3 rfl ?_
    refine j_iload_n (pc := 26) C dX1_pass_26 1 rfl ?_
    refine j_icmp_ge (pc := 27) C 43 dX1_pass_27 (by decide) ⟨by omega, by omega⟩ ⟨by omega, by omega⟩ (fun c_27 => absurd c_27 (by omega)) (fun c_27 => ?_)
    refine j_iload_n (pc := 30) C dX1_pass_30 2 rfl ?_
    refine j_aload_n (pc := 31) C dX1_pass_31 0 rfl ?_
    refine j_callI (pc := 32) C (As := []) (rest := [.int (zI (dayC Dm L i))]) (kX1_evenOut l D h c1 c2 c3 0 L K (dayF Dm L i) S lo hi su db dy li so sp X ke (dayT Dm L se i)  (by omega) (by omega) (dayF_in hf i)) (cwV 0 C.2.2.2.2.1 gX1_pass_X1_evenOut rfl rfl rfl (by decide +kernel) ⟨Nat.le_of_ble_eq_true rfl, Nat.le_of_ble_eq_true rfl⟩) 0 (ci := 1) rfl rfl rfl dX1_pass_32 rfl rfl (Nat.le_of_ble_eq_true rfl) (by decide) ?_
    refine j_iadd (pc := 35) C dX1_pass_35 ?_
    refine j_istore_n (pc := 36) C (lv' := [(0, .ref (h 0)), (1, .int (zI a)), (2, .int (zI ((dayC Dm L i) + (turnC (dayF Dm L i) L)))), (3, .int (zI i))]) dX1_pass_36 (by decide) [1, 2, 0, 3] rfl ?_
    refine j_iinc (pc := 37) C (lv' := [(0, .ref (h 0)), (1, .int (zI a)), (2, .int (zI ((dayC Dm L i) + (turnC (dayF Dm L i) L)))), (3, .int (zI (i + 1)))]) dX1_pass_37 3 rfl (by decide) [1, 2, 3, 0] rfl ?_
    refine j_goto (pc := 40) C 25 dX1_pass_40 (by decide) ?_
    exact J.cast (hk_25 trivial) (by rw [dayF_up Dm L i h0_25, dayT_up Dm L se i h0_25]) (by rw [dayC_up Dm L i h0_25]) rfl
  · intro hI_25
    try dsimp only at hI_25 ⊢
    refine j_iload_n (pc := 25) C dX1_pass_25 3 rfl ?_
    refine j_iload_n (pc := 26) C dX1_pass_26 1 rfl ?_
    refine j_icmp_ge (pc := 27) C 43 dX1_pass_27 (by decide) ⟨by omega, by omega⟩ ⟨by omega, by omega⟩ (fun c_27 => ?_) (fun c_27 => absurd c_27 (by omega))
    refine j_iconst (pc := 43) C dX1_pass_43 ?_
    refine j_istore_n (pc := 44) C (lv' := [(0, .ref (h 0)), (1, .int (zI a)), (2, .int (zI (dayC Dm L a))), (3, .int (zI 0))]) dX1_pass_44 (by decide) [1, 2, 3, 0] rfl ?_
    refine J.cast (ws' := wN h c1 0 L K (dayF Dm L a) S lo hi su (mix (fun j => db j + a * (hi j - lo j + 1)) db 0) dy li so sp X ke (dayT Dm L se a)) (lv' := [(0, .ref (h 0)), (1, .int (zI a)), (2, .int (zI (dayC Dm L a))), (3, .int (zI 0))]) ?_ (by rw [mix_0]) (by rfl) rfl
    refine j_up (fun i : Int => wN h c1 0 L K (dayF Dm L a) S lo hi su (mix (fun j => db j + a * (hi j - lo j + 1)) db i) dy li so sp X ke (dayT Dm L se a)) (fun i : Int => [(0, .ref (h 0)), (1, .int (zI a)), (2, .int (zI (dayC Dm L a))), (3, .int (zI i))]) (fun i : Int => True) 0 S (by omega) trivial ?_ ?_
    · intro i h0_45 h1_45 hI_45 hk_45
      try dsimp only at hI_45 hk_45 ⊢
      refine j_iload_n (pc := 45) C dX1_pass_45 3 rfl ?_
      refine j_aload_n (pc := 46) C dX1_pass_46 0 rfl ?_
      refine j_get (pc := 47) C (ref := "GrainSiloModel") (T := TX1) (N := 16) hin 0 rfl rfl 4 (by decide) (C.w 2 rfl) rfl rfl dX1_pass_47 ?_
      refine j_icmp_ge (pc := 50) C 85 dX1_pass_50 (by decide) ⟨by omega, by omega⟩ ⟨by omega, by omega⟩ (fun c_50 => absurd c_50 (by omega)) (fun c_50 => ?_)
      refine j_aload_n (pc := 53) C dX1_pass_53 0 rfl ?_
      refine j_get (pc := 54) C (ref := "GrainSiloModel") (T := TX1) (N := 16) hin 0 rfl rfl 8 (by decide) (C.w 3 rfl) rfl rfl dX1_pass_54 ?_
      refine j_iload_n (pc := 57) C dX1_pass_57 3 rfl ?_
      refine j_dup2 (pc := 58) C dX1_pass_58 rfl rfl ?_
      refine j_iald (pc := 59) C 6 0 rfl rfl (by omega) (by omega) (by decide) dX1_pass_59 ?_
      refine j_iload_n (pc := 60) C dX1_pass_60 1 rfl ?_
      refine j_aload_n (pc := 61) C dX1_pass_61 0 rfl ?_
      refine j_get (pc := 62) C (ref := "GrainSiloModel") (T := TX1) (N := 16) hin 0 rfl rfl 6 (by decide) (C.w 4 rfl) rfl rfl dX1_pass_62 ?_
      refine j_iload_n (pc := 65) C dX1_pass_65 3 rfl ?_
      refine j_iald (pc := 66) C 4 0 rfl rfl (by omega) (by omega) (by decide) dX1_pass_66 ?_
      refine j_aload_n (pc := 67) C dX1_pass_67 0 rfl ?_
      refine j_get (pc := 68) C (ref := "GrainSiloModel") (T := TX1) (N := 16) hin 0 rfl rfl 5 (by decide) (C.w 5 rfl) rfl rfl dX1_pass_68 ?_
      refine j_iload_n (pc := 71) C dX1_pass_71 3 rfl ?_
      refine j_iald (pc := 72) C 3 0 rfl rfl (by omega) (by omega) (by decide) dX1_pass_72 ?_
      refine j_isub (pc := 73) C dX1_pass_73 ?_
      refine j_iconst (pc := 74) C dX1_pass_74 ?_
      refine j_iadd (pc := 75) C dX1_pass_75 ?_
      refine j_imul (pc := 76) C dX1_pass_76 ?_
      refine j_iadd (pc := 77) C dX1_pass_77 ?_
      refine j_iast (pc := 78) C 6 0 rfl rfl (by omega) (by omega) (by decide) (ws' := wN h c1 0 L K (dayF Dm L a) S lo hi su (upZ (mix (fun j => db j + a * (hi j - lo j + 1)) db i) i (((mix (fun j => db j + a * (hi j - lo j + 1)) db i) i) + (a * (((hi i) - (lo i)) + 1)))) dy li so sp X ke (dayT Dm L se a)) rfl dX1_pass_78 ?_
      refine j_iinc (pc := 79) C (lv' := [(0, .ref (h 0)), (1, .int (zI a)), (2, .int (zI (dayC Dm L a))), (3, .int (zI (i + 1)))]) dX1_pass_79 3 rfl (by decide) [1, 2, 3, 0] rfl ?_
      refine j_goto (pc := 82) C 45 dX1_pass_82 (by decide) ?_
      exact J.cast (hk_45 trivial) (by rw [mix_up _ db i h0_45, mix_ge _ db i i (Int.le_refl _)]) (by rfl) rfl
    · intro hI_45
      try dsimp only at hI_45 ⊢
      refine j_iload_n (pc := 45) C dX1_pass_45 3 rfl ?_
      refine j_aload_n (pc := 46) C dX1_pass_46 0 rfl ?_
      refine j_get (pc := 47) C (ref := "GrainSiloModel") (T := TX1) (N := 16) hin 0 rfl rfl 4 (by decide) (C.w 2 rfl) rfl rfl dX1_pass_47 ?_
      refine j_icmp_ge (pc := 50) C 85 dX1_pass_50 (by decide) ⟨by omega, by omega⟩ ⟨by omega, by omega⟩ (fun c_50 => ?_) (fun c_50 => absurd c_50 (by omega))
      refine j_aload_n (pc := 85) C dX1_pass_85 0 rfl ?_
      refine j_dup (pc := 86) C dX1_pass_86 rfl ?_
      refine j_get (pc := 87) C (ref := "GrainSiloModel") (T := TX1) (N := 16) hin 0 rfl rfl 9 (by decide) (C.w 6 rfl) rfl rfl dX1_pass_87 ?_
      refine j_iload_n (pc := 90) C dX1_pass_90 1 rfl ?_
      refine j_iadd (pc := 91) C dX1_pass_91 ?_
      refine j_put (pc := 92) C (ref := "GrainSiloModel") (T := TX1) (N := 16) (ws' := wN h c1 0 L K (dayF Dm L a) S lo hi su (mix (fun j => db j + a * (hi j - lo j + 1)) db S) (dy + a) li so sp X ke (dayT Dm L se a)) hin tyX1 tyX1_ok nmX1 0 rfl rfl 9 (by decide) (C.w 6 rfl) rfl rfl (by decide +kernel) (Nat.le_of_ble_eq_true rfl) rfl dX1_pass_92 ?_
      refine j_iload_n (pc := 95) C dX1_pass_95 2 rfl ?_
      exact j_iret (pc := 96) C hr dX1_pass_96 (by rfl) (by rfl) (by decide) (by decide)
set_option maxHeartbeats 4000000 in
set_option maxRecDepth 100000 in
theorem kX1_pass_no1 (l : Launch) (D : va_G) (h : Nat → Nat) (c1 c2 c3 : ClassId) (th L : Int) (K Dm : Int → Int) (S : Int) (lo hi su db : Int → Int) (dy li so sp : Int) (X : Int → Int → Int) (ke se : Int → Int) (a : Int) (ha : zR a) (hn : ¬ (1 ≤ a ∧ a ≤ 50)) : cI l yX1_pass wsX1_pass ({ frames := 1, cells := 0, slots := 0, locals := 22 }) D (tyS c1 c2 c3) [.ref (h 0), .int (zI a)] (wN h c1 th L K Dm S lo hi su db dy li so sp X ke se) (wN h c1 1 L K Dm S lo hi su db dy li so sp X ke se) (zI 0) 0 0 := by
  refine cI.of (cc := cX1_pass) (maxL := 4) (ret := .int) (by decide) rfl (lv := [(0, .ref (h 0)), (1, .int (zI a))]) [0, 1] rfl (Nat.le_of_ble_eq_true rfl) ?_
  intro p e s m args below meth c A C hr
  have C : GC p s m args meth c cX1_pass 4 RX1 wsX1_pass D (tyS c1 c2 c3) A := C
  have hin : ∀ w ∈ wsX10, w ∈ wsX1_pass := fun _ h => List.mem_cons_of_mem _ (List.mem_append_right _ h)
  obtain ⟨ha1, ha2⟩ := ha
  refine j_aload_n (pc := 0) C dX1_pass_0 0 rfl ?_
  refine j_iconst (pc := 1) C dX1_pass_1 ?_
  refine j_put (pc := 2) C (ref := "GrainSiloModel") (T := TX1) (N := 16) (ws' := wN h c1 0 L K Dm S lo hi su db dy li so sp X ke se) hin tyX1 tyX1_ok nmX1 0 rfl rfl 0 (by decide) (C.w 1 rfl) rfl rfl (by decide +kernel) (Nat.le_of_ble_eq_true rfl) rfl dX1_pass_2 ?_
  refine j_iload_n (pc := 5) C dX1_pass_5 1 rfl ?_
  refine j_iconst (pc := 6) C dX1_pass_6 ?_
  refine j_bipush (pc := 7) C dX1_pass_7 (by decide +kernel) ?_
  refine j_callSI (pc := 9) C (As := [.int (zI a), .int (zI 1), .int (zI 50)]) (rest := []) (kX1_isIn l D c1 c2 c3 a 1 50 ⟨by omega, by omega⟩ ⟨by omega, by omega⟩ ⟨by omega, by omega⟩) (va_cwS 3 C.2.2.2.2.1 gX1_pass_X1_isIn rfl rfl rfl (by decide +kernel) ⟨Nat.le_of_ble_eq_true rfl, Nat.le_of_ble_eq_true rfl⟩) dX1_pass_9 rfl rfl (Nat.le_of_ble_eq_true rfl) (by decide) ?_
  refine j_if_ne (pc := 12) C 21 dX1_pass_12 (by decide) ⟨by omega, by omega⟩ (fun c_12 => absurd c_12 (by omega)) (fun c_12 => ?_)
  refine j_aload_n (pc := 15) C dX1_pass_15 0 rfl ?_
  refine j_iconst (pc := 16) C dX1_pass_16 ?_
  refine j_callI (pc := 17) C (As := [.int (zI 1)]) (rest := []) (kX1_no l D h c1 c2 c3 0 L K Dm S lo hi su db dy li so sp X ke se 1 ) (cwV 1 C.2.2.2.2.1 gX1_pass_X1_no rfl rfl rfl (by decide +kernel) ⟨Nat.le_of_ble_eq_true rfl, Nat.le_of_ble_eq_true rfl⟩) 0 (ci := 1) rfl rfl rfl dX1_pass_17 rfl rfl (Nat.le_of_ble_eq_true rfl) (by decide) ?_
  exact j_iret (pc := 20) C hr dX1_pass_20 (by rfl) (by rfl) (by decide) (by decide)
set_option maxHeartbeats 4000000 in
set_option maxRecDepth 100000 in
theorem kX1_draw (l : Launch) (D : va_G) (h : Nat → Nat) (c1 c2 c3 : ClassId) (th L : Int) (K Dm : Int → Int) (S : Int) (lo hi su db : Int → Int) (dy li so sp : Int) (X : Int → Int → Int) (ke se : Int → Int) (a b : Int) (h0 : 0 ≤ a) (h1 : a ≤ b) (h2 : b < L) (hL : L ≤ 12) (hS0 : 0 ≤ S) (hS : S < 16) : cI l yX1_draw wsX1_draw ({ frames := 3, cells := 0, slots := 0, locals := 65 }) D (tyS c1 c2 c3) [.ref (h 0), .int (zI a), .int (zI b)] (wN h c1 th L K Dm S lo hi su db dy li so sp X ke se) (wN h c1 0 L K Dm (S + 1) (upZ lo S a) (upZ hi S b) (upZ su S (zs Dm a (b + 1))) (upZ db S 0) dy li so sp X ke se) (zI (zs Dm a (b + 1))) 0 0 := by
  refine cI.of (cc := cX1_draw) (maxL := 3) (ret := .int) (by decide) rfl (lv := [(0, .ref (h 0)), (1, .int (zI a)), (2, .int (zI b))]) [0, 1, 2] rfl (Nat.le_of_ble_eq_true rfl) ?_
  intro p e s m args below meth c A C hr
  have C : GC p s m args meth c cX1_draw 3 RX1 wsX1_draw D (tyS c1 c2 c3) A := C
  have hin : ∀ w ∈ wsX10, w ∈ wsX1_draw := fun _ h => List.mem_cons_of_mem _ (List.mem_append_right _ h)
  refine j_aload_n (pc := 0) C dX1_draw_0 0 rfl ?_
  refine j_iconst (pc := 1) C dX1_draw_1 ?_
  refine j_put (pc := 2) C (ref := "GrainSiloModel") (T := TX1) (N := 16) (ws' := wN h c1 0 L K Dm S lo hi su db dy li so sp X ke se) hin tyX1 tyX1_ok nmX1 0 rfl rfl 0 (by decide) (C.w 1 rfl) rfl rfl (by decide +kernel) (Nat.le_of_ble_eq_true rfl) rfl dX1_draw_2 ?_
  refine j_aload_n (pc := 5) C dX1_draw_5 0 rfl ?_
  refine j_iload_n (pc := 6) C dX1_draw_6 1 rfl ?_
  refine j_iload_n (pc := 7) C dX1_draw_7 2 rfl ?_
  refine j_callI (pc := 8) C (As := [.int (zI a), .int (zI b)]) (rest := []) (kX1_areLayers l D h c1 c2 c3 0 L K Dm S lo hi su db dy li so sp X ke se a b (by omega) (by omega) ⟨by omega, by omega⟩ ⟨by omega, by omega⟩) (cwV 2 C.2.2.2.2.1 gX1_draw_X1_areLayers rfl rfl rfl (by decide +kernel) ⟨Nat.le_of_ble_eq_true rfl, Nat.le_of_ble_eq_true rfl⟩) 0 (ci := 1) rfl rfl rfl dX1_draw_8 rfl rfl (Nat.le_of_ble_eq_true rfl) (by decide) ?_
  refine j_if_ne (pc := 11) C 20 dX1_draw_11 (by decide) ⟨by omega, by omega⟩ (fun c_11 => ?_) (fun c_11 => absurd c_11 (by omega))
  refine j_aload_n (pc := 20) C dX1_draw_20 0 rfl ?_
  refine j_get (pc := 21) C (ref := "GrainSiloModel") (T := TX1) (N := 16) hin 0 rfl rfl 4 (by decide) (C.w 2 rfl) rfl rfl dX1_draw_21 ?_
  refine j_bipush (pc := 24) C dX1_draw_24 (by decide +kernel) ?_
  refine j_icmp_ne (pc := 26) C 35 dX1_draw_26 (by decide) ⟨by omega, by omega⟩ ⟨by omega, by omega⟩ (fun c_26 => ?_) (fun c_26 => absurd c_26 (by omega))
  refine j_aload_n (pc := 35) C dX1_draw_35 0 rfl ?_
  refine j_get (pc := 36) C (ref := "GrainSiloModel") (T := TX1) (N := 16) hin 0 rfl rfl 5 (by decide) (C.w 3 rfl) rfl rfl dX1_draw_36 ?_
  refine j_aload_n (pc := 39) C dX1_draw_39 0 rfl ?_
  refine j_get (pc := 40) C (ref := "GrainSiloModel") (T := TX1) (N := 16) hin 0 rfl rfl 4 (by decide) (C.w 2 rfl) rfl rfl dX1_draw_40 ?_
  refine j_iload_n (pc := 43) C dX1_draw_43 1 rfl ?_
  refine j_iast (pc := 44) C 3 0 rfl rfl (by omega) (by omega) (by decide) (ws' := wN h c1 0 L K Dm S (upZ lo S a) hi su db dy li so sp X ke se) rfl dX1_draw_44 ?_
  refine j_aload_n (pc := 45) C dX1_draw_45 0 rfl ?_
  refine j_get (pc := 46) C (ref := "GrainSiloModel") (T := TX1) (N := 16) hin 0 rfl rfl 6 (by decide) (C.w 4 rfl) rfl rfl dX1_draw_46 ?_
  refine j_aload_n (pc := 49) C dX1_draw_49 0 rfl ?_
  refine j_get (pc := 50) C (ref := "GrainSiloModel") (T := TX1) (N := 16) hin 0 rfl rfl 4 (by decide) (C.w 2 rfl) rfl rfl dX1_draw_50 ?_
  refine j_iload_n (pc := 53) C dX1_draw_53 2 rfl ?_
  refine j_iast (pc := 54) C 4 0 rfl rfl (by omega) (by omega) (by decide) (ws' := wN h c1 0 L K Dm S (upZ lo S a) (upZ hi S b) su db dy li so sp X ke se) rfl dX1_draw_54 ?_
  refine j_aload_n (pc := 55) C dX1_draw_55 0 rfl ?_
  refine j_get (pc := 56) C (ref := "GrainSiloModel") (T := TX1) (N := 16) hin 0 rfl rfl 7 (by decide) (C.w 5 rfl) rfl rfl dX1_draw_56 ?_
  refine j_aload_n (pc := 59) C dX1_draw_59 0 rfl ?_
  refine j_get (pc := 60) C (ref := "GrainSiloModel") (T := TX1) (N := 16) hin 0 rfl rfl 4 (by decide) (C.w 2 rfl) rfl rfl dX1_draw_60 ?_
  refine j_aload_n (pc := 63) C dX1_draw_63 0 rfl ?_
  refine j_iload_n (pc := 64) C dX1_draw_64 1 rfl ?_
  refine j_iload_n (pc := 65) C dX1_draw_65 2 rfl ?_
  refine j_callI (pc := 66) C (As := [.int (zI a), .int (zI b)]) (rest := [.int (zI S), .ref (h 5)]) (kX1_added l D h c1 c2 c3 0 L K Dm S (upZ lo S a) (upZ hi S b) su db dy li so sp X ke se a b (by omega) (by omega) (by omega)) (cwV 2 C.2.2.2.2.1 gX1_draw_X1_added rfl rfl rfl (by decide +kernel) ⟨Nat.le_of_ble_eq_true rfl, Nat.le_of_ble_eq_true rfl⟩) 0 (ci := 1) rfl rfl rfl dX1_draw_66 rfl rfl (Nat.le_of_ble_eq_true rfl) (by decide) ?_
  refine j_iast (pc := 69) C 5 0 rfl rfl (by omega) (by omega) (by decide) (ws' := wN h c1 0 L K Dm S (upZ lo S a) (upZ hi S b) (upZ su S (zs Dm a (b + 1))) db dy li so sp X ke se) rfl dX1_draw_69 ?_
  refine j_aload_n (pc := 70) C dX1_draw_70 0 rfl ?_
  refine j_get (pc := 71) C (ref := "GrainSiloModel") (T := TX1) (N := 16) hin 0 rfl rfl 8 (by decide) (C.w 6 rfl) rfl rfl dX1_draw_71 ?_
  refine j_aload_n (pc := 74) C dX1_draw_74 0 rfl ?_
  refine j_get (pc := 75) C (ref := "GrainSiloModel") (T := TX1) (N := 16) hin 0 rfl rfl 4 (by decide) (C.w 2 rfl) rfl rfl dX1_draw_75 ?_
  refine j_iconst (pc := 78) C dX1_draw_78 ?_
  refine j_iast (pc := 79) C 6 0 rfl rfl (by omega) (by omega) (by decide) (ws' := wN h c1 0 L K Dm S (upZ lo S a) (upZ hi S b) (upZ su S (zs Dm a (b + 1))) (upZ db S 0) dy li so sp X ke se) rfl dX1_draw_79 ?_
  refine j_aload_n (pc := 80) C dX1_draw_80 0 rfl ?_
  refine j_dup (pc := 81) C dX1_draw_81 rfl ?_
  refine j_get (pc := 82) C (ref := "GrainSiloModel") (T := TX1) (N := 16) hin 0 rfl rfl 4 (by decide) (C.w 2 rfl) rfl rfl dX1_draw_82 ?_
  refine j_iconst (pc := 85) C dX1_draw_85 ?_
  refine j_iadd (pc := 86) C dX1_draw_86 ?_
  refine j_put (pc := 87) C (ref := "GrainSiloModel") (T := TX1) (N := 16) (ws' := wN h c1 0 L K Dm (S + 1) (upZ lo S a) (upZ hi S b) (upZ su S (zs Dm a (b + 1))) (upZ db S 0) dy li so sp X ke se) hin tyX1 tyX1_ok nmX1 0 rfl rfl 4 (by decide) (C.w 2 rfl) rfl rfl (by decide +kernel) (Nat.le_of_ble_eq_true rfl) rfl dX1_draw_87 ?_
  refine j_aload_n (pc := 90) C dX1_draw_90 0 rfl ?_
  refine j_get (pc := 91) C (ref := "GrainSiloModel") (T := TX1) (N := 16) hin 0 rfl rfl 7 (by decide) (C.w 5 rfl) rfl rfl dX1_draw_91 ?_
  refine j_aload_n (pc := 94) C dX1_draw_94 0 rfl ?_
  refine j_get (pc := 95) C (ref := "GrainSiloModel") (T := TX1) (N := 16) hin 0 rfl rfl 4 (by decide) (C.w 2 rfl) rfl rfl dX1_draw_95 ?_
  refine j_iconst (pc := 98) C dX1_draw_98 ?_
  refine j_isub (pc := 99) C dX1_draw_99 ?_
  refine j_iald (pc := 100) C 5 0 rfl rfl (by omega) (by omega) (by decide) dX1_draw_100 ?_
  exact j_iret (pc := 101) C hr dX1_draw_101 (by rw [show S + 1 - 1 = S by omega, upZ_s]) (by rfl) (by decide) (by decide)
set_option maxHeartbeats 4000000 in
set_option maxRecDepth 100000 in
theorem kX1_draw_no1 (l : Launch) (D : va_G) (h : Nat → Nat) (c1 c2 c3 : ClassId) (th L : Int) (K Dm : Int → Int) (S : Int) (lo hi su db : Int → Int) (dy li so sp : Int) (X : Int → Int → Int) (ke se : Int → Int) (a b : Int) (hL0 : 0 ≤ L) (hL : L ≤ 12) (ha : zR a) (hb : zR b) (hn : ¬ (0 ≤ a ∧ a ≤ b ∧ b < L)) : cI l yX1_draw wsX1_draw ({ frames := 3, cells := 0, slots := 0, locals := 65 }) D (tyS c1 c2 c3) [.ref (h 0), .int (zI a), .int (zI b)] (wN h c1 th L K Dm S lo hi su db dy li so sp X ke se) (wN h c1 1 L K Dm S lo hi su db dy li so sp X ke se) (zI 0) 0 0 := by
  refine cI.of (cc := cX1_draw) (maxL := 3) (ret := .int) (by decide) rfl (lv := [(0, .ref (h 0)), (1, .int (zI a)), (2, .int (zI b))]) [0, 1, 2] rfl (Nat.le_of_ble_eq_true rfl) ?_
  intro p e s m args below meth c A C hr
  have C : GC p s m args meth c cX1_draw 3 RX1 wsX1_draw D (tyS c1 c2 c3) A := C
  have hin : ∀ w ∈ wsX10, w ∈ wsX1_draw := fun _ h => List.mem_cons_of_mem _ (List.mem_append_right _ h)
  obtain ⟨ha1, ha2⟩ := ha
  obtain ⟨hb1, hb2⟩ := hb
  refine j_aload_n (pc := 0) C dX1_draw_0 0 rfl ?_
  refine j_iconst (pc := 1) C dX1_draw_1 ?_
  refine j_put (pc := 2) C (ref := "GrainSiloModel") (T := TX1) (N := 16) (ws' := wN h c1 0 L K Dm S lo hi su db dy li so sp X ke se) hin tyX1 tyX1_ok nmX1 0 rfl rfl 0 (by decide) (C.w 1 rfl) rfl rfl (by decide +kernel) (Nat.le_of_ble_eq_true rfl) rfl dX1_draw_2 ?_
  refine j_aload_n (pc := 5) C dX1_draw_5 0 rfl ?_
  refine j_iload_n (pc := 6) C dX1_draw_6 1 rfl ?_
  refine j_iload_n (pc := 7) C dX1_draw_7 2 rfl ?_
  refine j_callI (pc := 8) C (As := [.int (zI a), .int (zI b)]) (rest := []) (kX1_areLayers l D h c1 c2 c3 0 L K Dm S lo hi su db dy li so sp X ke se a b (by omega) (by omega) ⟨by omega, by omega⟩ ⟨by omega, by omega⟩) (cwV 2 C.2.2.2.2.1 gX1_draw_X1_areLayers rfl rfl rfl (by decide +kernel) ⟨Nat.le_of_ble_eq_true rfl, Nat.le_of_ble_eq_true rfl⟩) 0 (ci := 1) rfl rfl rfl dX1_draw_8 rfl rfl (Nat.le_of_ble_eq_true rfl) (by decide) ?_
  refine j_if_ne (pc := 11) C 20 dX1_draw_11 (by decide) ⟨by omega, by omega⟩ (fun c_11 => absurd c_11 (by omega)) (fun c_11 => ?_)
  refine j_aload_n (pc := 14) C dX1_draw_14 0 rfl ?_
  refine j_iconst (pc := 15) C dX1_draw_15 ?_
  refine j_callI (pc := 16) C (As := [.int (zI 1)]) (rest := []) (kX1_no l D h c1 c2 c3 0 L K Dm S lo hi su db dy li so sp X ke se 1 ) (cwV 1 C.2.2.2.2.1 gX1_draw_X1_no rfl rfl rfl (by decide +kernel) ⟨Nat.le_of_ble_eq_true rfl, Nat.le_of_ble_eq_true rfl⟩) 0 (ci := 1) rfl rfl rfl dX1_draw_16 rfl rfl (Nat.le_of_ble_eq_true rfl) (by decide) ?_
  exact j_iret (pc := 19) C hr dX1_draw_19 (by rfl) (by rfl) (by decide) (by decide)
set_option maxHeartbeats 4000000 in
set_option maxRecDepth 100000 in
theorem kX1_draw_no2 (l : Launch) (D : va_G) (h : Nat → Nat) (c1 c2 c3 : ClassId) (th L : Int) (K Dm : Int → Int) (S : Int) (lo hi su db : Int → Int) (dy li so sp : Int) (X : Int → Int → Int) (ke se : Int → Int) (a b : Int) (h0 : 0 ≤ a) (h1 : a ≤ b) (h2 : b < L) (hL : L ≤ 12) (hS : S = 16) : cI l yX1_draw wsX1_draw ({ frames := 3, cells := 0, slots := 0, locals := 65 }) D (tyS c1 c2 c3) [.ref (h 0), .int (zI a), .int (zI b)] (wN h c1 th L K Dm S lo hi su db dy li so sp X ke se) (wN h c1 2 L K Dm S lo hi su db dy li so sp X ke se) (zI 0) 0 0 := by
  refine cI.of (cc := cX1_draw) (maxL := 3) (ret := .int) (by decide) rfl (lv := [(0, .ref (h 0)), (1, .int (zI a)), (2, .int (zI b))]) [0, 1, 2] rfl (Nat.le_of_ble_eq_true rfl) ?_
  intro p e s m args below meth c A C hr
  have C : GC p s m args meth c cX1_draw 3 RX1 wsX1_draw D (tyS c1 c2 c3) A := C
  have hin : ∀ w ∈ wsX10, w ∈ wsX1_draw := fun _ h => List.mem_cons_of_mem _ (List.mem_append_right _ h)
  refine j_aload_n (pc := 0) C dX1_draw_0 0 rfl ?_
  refine j_iconst (pc := 1) C dX1_draw_1 ?_
  refine j_put (pc := 2) C (ref := "GrainSiloModel") (T := TX1) (N := 16) (ws' := wN h c1 0 L K Dm S lo hi su db dy li so sp X ke se) hin tyX1 tyX1_ok nmX1 0 rfl rfl 0 (by decide) (C.w 1 rfl) rfl rfl (by decide +kernel) (Nat.le_of_ble_eq_true rfl) rfl dX1_draw_2 ?_
  refine j_aload_n (pc := 5) C dX1_draw_5 0 rfl ?_
  refine j_iload_n (pc := 6) C dX1_draw_6 1 rfl ?_
  refine j_iload_n (pc := 7) C dX1_draw_7 2 rfl ?_
  refine j_callI (pc := 8) C (As := [.int (zI a), .int (zI b)]) (rest := []) (kX1_areLayers l D h c1 c2 c3 0 L K Dm S lo hi su db dy li so sp X ke se a b (by omega) (by omega) ⟨by omega, by omega⟩ ⟨by omega, by omega⟩) (cwV 2 C.2.2.2.2.1 gX1_draw_X1_areLayers rfl rfl rfl (by decide +kernel) ⟨Nat.le_of_ble_eq_true rfl, Nat.le_of_ble_eq_true rfl⟩) 0 (ci := 1) rfl rfl rfl dX1_draw_8 rfl rfl (Nat.le_of_ble_eq_true rfl) (by decide) ?_
  refine j_if_ne (pc := 11) C 20 dX1_draw_11 (by decide) ⟨by omega, by omega⟩ (fun c_11 => ?_) (fun c_11 => absurd c_11 (by omega))
  refine j_aload_n (pc := 20) C dX1_draw_20 0 rfl ?_
  refine j_get (pc := 21) C (ref := "GrainSiloModel") (T := TX1) (N := 16) hin 0 rfl rfl 4 (by decide) (C.w 2 rfl) rfl rfl dX1_draw_21 ?_
  refine j_bipush (pc := 24) C dX1_draw_24 (by decide +kernel) ?_
  refine j_icmp_ne (pc := 26) C 35 dX1_draw_26 (by decide) ⟨by omega, by omega⟩ ⟨by omega, by omega⟩ (fun c_26 => absurd c_26 (by omega)) (fun c_26 => ?_)
  refine j_aload_n (pc := 29) C dX1_draw_29 0 rfl ?_
  refine j_iconst (pc := 30) C dX1_draw_30 ?_
  refine j_callI (pc := 31) C (As := [.int (zI 2)]) (rest := []) (kX1_no l D h c1 c2 c3 0 L K Dm S lo hi su db dy li so sp X ke se 2 ) (cwV 1 C.2.2.2.2.1 gX1_draw_X1_no rfl rfl rfl (by decide +kernel) ⟨Nat.le_of_ble_eq_true rfl, Nat.le_of_ble_eq_true rfl⟩) 0 (ci := 1) rfl rfl rfl dX1_draw_31 rfl rfl (Nat.le_of_ble_eq_true rfl) (by decide) ?_
  exact j_iret (pc := 34) C hr dX1_draw_34 (by rfl) (by rfl) (by decide) (by decide)
set_option maxHeartbeats 4000000 in
set_option maxRecDepth 100000 in
theorem kX1_throwAway (l : Launch) (D : va_G) (h : Nat → Nat) (c1 c2 c3 : ClassId) (th L : Int) (K Dm : Int → Int) (S : Int) (lo hi su db : Int → Int) (dy li so sp : Int) (X : Int → Int → Int) (ke se : Int → Int) (a : Int) (h0 : 0 ≤ a) (h1 : a < S) (h2 : S ≤ 16) : cI l yX1_throwAway wsX1_throwAway ({ frames := 2, cells := 0, slots := 0, locals := 43 }) D (tyS c1 c2 c3) [.ref (h 0), .int (zI a)] (wN h c1 th L K Dm S lo hi su db dy li so sp X ke se) (wN h c1 0 L K Dm (S - 1) (shA lo a (S - 1 + 1)) (shA hi a (S - 1 + 1)) (shA su a (S - 1 + 1)) (shA db a (S - 1 + 1)) dy li so sp X ke se) (zI (S - 1)) 0 0 := by
  refine cI.of (cc := cX1_throwAway) (maxL := 2) (ret := .int) (by decide) rfl (lv := [(0, .ref (h 0)), (1, .int (zI a))]) [0, 1] rfl (Nat.le_of_ble_eq_true rfl) ?_
  intro p e s m args below meth c A C hr
  have C : GC p s m args meth c cX1_throwAway 2 RX1 wsX1_throwAway D (tyS c1 c2 c3) A := C
  have hin : ∀ w ∈ wsX10, w ∈ wsX1_throwAway := fun _ h => List.mem_cons_of_mem _ (List.mem_append_right _ h)
  refine j_aload_n (pc := 0) C dX1_throwAway_0 0 rfl ?_
  refine j_iconst (pc := 1) C dX1_throwAway_1 ?_
  refine j_put (pc := 2) C (ref := "GrainSiloModel") (T := TX1) (N := 16) (ws' := wN h c1 0 L K Dm S lo hi su db dy li so sp X ke se) hin tyX1 tyX1_ok nmX1 0 rfl rfl 0 (by decide) (C.w 1 rfl) rfl rfl (by decide +kernel) (Nat.le_of_ble_eq_true rfl) rfl dX1_throwAway_2 ?_
  refine j_aload_n (pc := 5) C dX1_throwAway_5 0 rfl ?_
  refine j_iload_n (pc := 6) C dX1_throwAway_6 1 rfl ?_
  refine j_callI (pc := 7) C (As := [.int (zI a)]) (rest := []) (kX1_isSample l D h c1 c2 c3 0 L K Dm S lo hi su db dy li so sp X ke se a (by omega) (by omega) ⟨by omega, by omega⟩) (cwV 1 C.2.2.2.2.1 gX1_throwAway_X1_isSample rfl rfl rfl (by decide +kernel) ⟨Nat.le_of_ble_eq_true rfl, Nat.le_of_ble_eq_true rfl⟩) 0 (ci := 1) rfl rfl rfl dX1_throwAway_7 rfl rfl (Nat.le_of_ble_eq_true rfl) (by decide) ?_
  refine j_if_ne (pc := 10) C 19 dX1_throwAway_10 (by decide) ⟨by omega, by omega⟩ (fun c_10 => ?_) (fun c_10 => absurd c_10 (by omega))
  refine j_aload_n (pc := 19) C dX1_throwAway_19 0 rfl ?_
  refine j_iload_n (pc := 20) C dX1_throwAway_20 1 rfl ?_
  refine j_callV (pc := 21) C (As := [.int (zI a)]) (rest := []) (kX1_drop l D h c1 c2 c3 0 L K Dm S lo hi su db dy li so sp X ke se a (by omega) (by omega) (by omega)) (cwV 1 C.2.2.2.2.1 gX1_throwAway_X1_drop rfl rfl rfl (by decide +kernel) ⟨Nat.le_of_ble_eq_true rfl, Nat.le_of_ble_eq_true rfl⟩) 0 (ci := 1) rfl rfl rfl dX1_throwAway_21 rfl rfl (Nat.le_of_ble_eq_true rfl) (by decide) ?_
  refine j_aload_n (pc := 24) C dX1_throwAway_24 0 rfl ?_
  refine j_get (pc := 25) C (ref := "GrainSiloModel") (T := TX1) (N := 16) hin 0 rfl rfl 4 (by decide) (C.w 2 rfl) rfl rfl dX1_throwAway_25 ?_
  exact j_iret (pc := 28) C hr dX1_throwAway_28 (by rfl) (by rfl) (by decide) (by decide)
set_option maxHeartbeats 4000000 in
set_option maxRecDepth 100000 in
theorem kX1_throwAway_no1 (l : Launch) (D : va_G) (h : Nat → Nat) (c1 c2 c3 : ClassId) (th L : Int) (K Dm : Int → Int) (S : Int) (lo hi su db : Int → Int) (dy li so sp : Int) (X : Int → Int → Int) (ke se : Int → Int) (a : Int) (hS0 : 0 ≤ S) (hS : S ≤ 16) (ha : zR a) (hn : ¬ (0 ≤ a ∧ a < S)) : cI l yX1_throwAway wsX1_throwAway ({ frames := 2, cells := 0, slots := 0, locals := 43 }) D (tyS c1 c2 c3) [.ref (h 0), .int (zI a)] (wN h c1 th L K Dm S lo hi su db dy li so sp X ke se) (wN h c1 1 L K Dm S lo hi su db dy li so sp X ke se) (zI 0) 0 0 := by
  refine cI.of (cc := cX1_throwAway) (maxL := 2) (ret := .int) (by decide) rfl (lv := [(0, .ref (h 0)), (1, .int (zI a))]) [0, 1] rfl (Nat.le_of_ble_eq_true rfl) ?_
  intro p e s m args below meth c A C hr
  have C : GC p s m args meth c cX1_throwAway 2 RX1 wsX1_throwAway D (tyS c1 c2 c3) A := C
  have hin : ∀ w ∈ wsX10, w ∈ wsX1_throwAway := fun _ h => List.mem_cons_of_mem _ (List.mem_append_right _ h)
  obtain ⟨ha1, ha2⟩ := ha
  refine j_aload_n (pc := 0) C dX1_throwAway_0 0 rfl ?_
  refine j_iconst (pc := 1) C dX1_throwAway_1 ?_
  refine j_put (pc := 2) C (ref := "GrainSiloModel") (T := TX1) (N := 16) (ws' := wN h c1 0 L K Dm S lo hi su db dy li so sp X ke se) hin tyX1 tyX1_ok nmX1 0 rfl rfl 0 (by decide) (C.w 1 rfl) rfl rfl (by decide +kernel) (Nat.le_of_ble_eq_true rfl) rfl dX1_throwAway_2 ?_
  refine j_aload_n (pc := 5) C dX1_throwAway_5 0 rfl ?_
  refine j_iload_n (pc := 6) C dX1_throwAway_6 1 rfl ?_
  refine j_callI (pc := 7) C (As := [.int (zI a)]) (rest := []) (kX1_isSample l D h c1 c2 c3 0 L K Dm S lo hi su db dy li so sp X ke se a (by omega) (by omega) ⟨by omega, by omega⟩) (cwV 1 C.2.2.2.2.1 gX1_throwAway_X1_isSample rfl rfl rfl (by decide +kernel) ⟨Nat.le_of_ble_eq_true rfl, Nat.le_of_ble_eq_true rfl⟩) 0 (ci := 1) rfl rfl rfl dX1_throwAway_7 rfl rfl (Nat.le_of_ble_eq_true rfl) (by decide) ?_
  refine j_if_ne (pc := 10) C 19 dX1_throwAway_10 (by decide) ⟨by omega, by omega⟩ (fun c_10 => absurd c_10 (by omega)) (fun c_10 => ?_)
  refine j_aload_n (pc := 13) C dX1_throwAway_13 0 rfl ?_
  refine j_iconst (pc := 14) C dX1_throwAway_14 ?_
  refine j_callI (pc := 15) C (As := [.int (zI 1)]) (rest := []) (kX1_no l D h c1 c2 c3 0 L K Dm S lo hi su db dy li so sp X ke se 1 ) (cwV 1 C.2.2.2.2.1 gX1_throwAway_X1_no rfl rfl rfl (by decide +kernel) ⟨Nat.le_of_ble_eq_true rfl, Nat.le_of_ble_eq_true rfl⟩) 0 (ci := 1) rfl rfl rfl dX1_throwAway_15 rfl rfl (Nat.le_of_ble_eq_true rfl) (by decide) ?_
  exact j_iret (pc := 18) C hr dX1_throwAway_18 (by rfl) (by rfl) (by decide) (by decide)
set_option maxHeartbeats 4000000 in
set_option maxRecDepth 100000 in
theorem kX1_samples (l : Launch) (D : va_G) (h : Nat → Nat) (c1 c2 c3 : ClassId) (th L : Int) (K Dm : Int → Int) (S : Int) (lo hi su db : Int → Int) (dy li so sp : Int) (X : Int → Int → Int) (ke se : Int → Int)  : cI l yX1_samples wsX1_samples ({ frames := 1, cells := 0, slots := 0, locals := 21 }) D (tyS c1 c2 c3) [.ref (h 0)] (wN h c1 th L K Dm S lo hi su db dy li so sp X ke se) (wN h c1 0 L K Dm S lo hi su db dy li so sp X ke se) (zI S) 0 0 := by
  refine cI.of (cc := cX1_samples) (maxL := 1) (ret := .int) (by decide) rfl (lv := [(0, .ref (h 0))]) [0] rfl (Nat.le_of_ble_eq_true rfl) ?_
  intro p e s m args below meth c A C hr
  have C : GC p s m args meth c cX1_samples 1 RX1 wsX1_samples D (tyS c1 c2 c3) A := C
  have hin : ∀ w ∈ wsX10, w ∈ wsX1_samples := fun _ h => List.mem_cons_of_mem _ (List.mem_append_right _ h)
  refine j_aload_n (pc := 0) C dX1_samples_0 0 rfl ?_
  refine j_aload_n (pc := 1) C dX1_samples_1 0 rfl ?_
  refine j_get (pc := 2) C (ref := "GrainSiloModel") (T := TX1) (N := 16) hin 0 rfl rfl 4 (by decide) (C.w 1 rfl) rfl rfl dX1_samples_2 ?_
  refine j_callI (pc := 5) C (As := [.int (zI S)]) (rest := []) (kX1_ok l D h c1 c2 c3 th L K Dm S lo hi su db dy li so sp X ke se S ) (cwV 1 C.2.2.2.2.1 gX1_samples_X1_ok rfl rfl rfl (by decide +kernel) ⟨Nat.le_of_ble_eq_true rfl, Nat.le_of_ble_eq_true rfl⟩) 0 (ci := 1) rfl rfl rfl dX1_samples_5 rfl rfl (Nat.le_of_ble_eq_true rfl) (by decide) ?_
  exact j_iret (pc := 8) C hr dX1_samples_8 (by rfl) (by rfl) (by decide) (by decide)
set_option maxHeartbeats 4000000 in
set_option maxRecDepth 100000 in
theorem kX1_layers (l : Launch) (D : va_G) (h : Nat → Nat) (c1 c2 c3 : ClassId) (th L : Int) (K Dm : Int → Int) (S : Int) (lo hi su db : Int → Int) (dy li so sp : Int) (X : Int → Int → Int) (ke se : Int → Int)  : cI l yX1_layers wsX1_layers ({ frames := 1, cells := 0, slots := 0, locals := 21 }) D (tyS c1 c2 c3) [.ref (h 0)] (wN h c1 th L K Dm S lo hi su db dy li so sp X ke se) (wN h c1 0 L K Dm S lo hi su db dy li so sp X ke se) (zI L) 0 0 := by
  refine cI.of (cc := cX1_layers) (maxL := 1) (ret := .int) (by decide) rfl (lv := [(0, .ref (h 0))]) [0] rfl (Nat.le_of_ble_eq_true rfl) ?_
  intro p e s m args below meth c A C hr
  have C : GC p s m args meth c cX1_layers 1 RX1 wsX1_layers D (tyS c1 c2 c3) A := C
  have hin : ∀ w ∈ wsX10, w ∈ wsX1_layers := fun _ h => List.mem_cons_of_mem _ (List.mem_append_right _ h)
  refine j_aload_n (pc := 0) C dX1_layers_0 0 rfl ?_
  refine j_aload_n (pc := 1) C dX1_layers_1 0 rfl ?_
  refine j_get (pc := 2) C (ref := "GrainSiloModel") (T := TX1) (N := 16) hin 0 rfl rfl 1 (by decide) (C.w 1 rfl) rfl rfl dX1_layers_2 ?_
  refine j_callI (pc := 5) C (As := [.int (zI L)]) (rest := []) (kX1_ok l D h c1 c2 c3 th L K Dm S lo hi su db dy li so sp X ke se L ) (cwV 1 C.2.2.2.2.1 gX1_layers_X1_ok rfl rfl rfl (by decide +kernel) ⟨Nat.le_of_ble_eq_true rfl, Nat.le_of_ble_eq_true rfl⟩) 0 (ci := 1) rfl rfl rfl dX1_layers_5 rfl rfl (Nat.le_of_ble_eq_true rfl) (by decide) ?_
  exact j_iret (pc := 8) C hr dX1_layers_8 (by rfl) (by rfl) (by decide) (by decide)
set_option maxHeartbeats 4000000 in
set_option maxRecDepth 100000 in
theorem kX1_day (l : Launch) (D : va_G) (h : Nat → Nat) (c1 c2 c3 : ClassId) (th L : Int) (K Dm : Int → Int) (S : Int) (lo hi su db : Int → Int) (dy li so sp : Int) (X : Int → Int → Int) (ke se : Int → Int)  : cI l yX1_day wsX1_day ({ frames := 1, cells := 0, slots := 0, locals := 21 }) D (tyS c1 c2 c3) [.ref (h 0)] (wN h c1 th L K Dm S lo hi su db dy li so sp X ke se) (wN h c1 0 L K Dm S lo hi su db dy li so sp X ke se) (zI dy) 0 0 := by
  refine cI.of (cc := cX1_day) (maxL := 1) (ret := .int) (by decide) rfl (lv := [(0, .ref (h 0))]) [0] rfl (Nat.le_of_ble_eq_true rfl) ?_
  intro p e s m args below meth c A C hr
  have C : GC p s m args meth c cX1_day 1 RX1 wsX1_day D (tyS c1 c2 c3) A := C
  have hin : ∀ w ∈ wsX10, w ∈ wsX1_day := fun _ h => List.mem_cons_of_mem _ (List.mem_append_right _ h)
  refine j_aload_n (pc := 0) C dX1_day_0 0 rfl ?_
  refine j_aload_n (pc := 1) C dX1_day_1 0 rfl ?_
  refine j_get (pc := 2) C (ref := "GrainSiloModel") (T := TX1) (N := 16) hin 0 rfl rfl 9 (by decide) (C.w 1 rfl) rfl rfl dX1_day_2 ?_
  refine j_callI (pc := 5) C (As := [.int (zI dy)]) (rest := []) (kX1_ok l D h c1 c2 c3 th L K Dm S lo hi su db dy li so sp X ke se dy ) (cwV 1 C.2.2.2.2.1 gX1_day_X1_ok rfl rfl rfl (by decide +kernel) ⟨Nat.le_of_ble_eq_true rfl, Nat.le_of_ble_eq_true rfl⟩) 0 (ci := 1) rfl rfl rfl dX1_day_5 rfl rfl (Nat.le_of_ble_eq_true rfl) (by decide) ?_
  exact j_iret (pc := 8) C hr dX1_day_8 (by rfl) (by rfl) (by decide) (by decide)
set_option maxHeartbeats 4000000 in
set_option maxRecDepth 100000 in
theorem kX1_limit (l : Launch) (D : va_G) (h : Nat → Nat) (c1 c2 c3 : ClassId) (th L : Int) (K Dm : Int → Int) (S : Int) (lo hi su db : Int → Int) (dy li so sp : Int) (X : Int → Int → Int) (ke se : Int → Int)  : cI l yX1_limit wsX1_limit ({ frames := 1, cells := 0, slots := 0, locals := 21 }) D (tyS c1 c2 c3) [.ref (h 0)] (wN h c1 th L K Dm S lo hi su db dy li so sp X ke se) (wN h c1 0 L K Dm S lo hi su db dy li so sp X ke se) (zI li) 0 0 := by
  refine cI.of (cc := cX1_limit) (maxL := 1) (ret := .int) (by decide) rfl (lv := [(0, .ref (h 0))]) [0] rfl (Nat.le_of_ble_eq_true rfl) ?_
  intro p e s m args below meth c A C hr
  have C : GC p s m args meth c cX1_limit 1 RX1 wsX1_limit D (tyS c1 c2 c3) A := C
  have hin : ∀ w ∈ wsX10, w ∈ wsX1_limit := fun _ h => List.mem_cons_of_mem _ (List.mem_append_right _ h)
  refine j_aload_n (pc := 0) C dX1_limit_0 0 rfl ?_
  refine j_aload_n (pc := 1) C dX1_limit_1 0 rfl ?_
  refine j_get (pc := 2) C (ref := "GrainSiloModel") (T := TX1) (N := 16) hin 0 rfl rfl 10 (by decide) (C.w 1 rfl) rfl rfl dX1_limit_2 ?_
  refine j_callI (pc := 5) C (As := [.int (zI li)]) (rest := []) (kX1_ok l D h c1 c2 c3 th L K Dm S lo hi su db dy li so sp X ke se li ) (cwV 1 C.2.2.2.2.1 gX1_limit_X1_ok rfl rfl rfl (by decide +kernel) ⟨Nat.le_of_ble_eq_true rfl, Nat.le_of_ble_eq_true rfl⟩) 0 (ci := 1) rfl rfl rfl dX1_limit_5 rfl rfl (Nat.le_of_ble_eq_true rfl) (by decide) ?_
  exact j_iret (pc := 8) C hr dX1_limit_8 (by rfl) (by rfl) (by decide) (by decide)
set_option maxHeartbeats 4000000 in
set_option maxRecDepth 100000 in
theorem kX1_sold (l : Launch) (D : va_G) (h : Nat → Nat) (c1 c2 c3 : ClassId) (th L : Int) (K Dm : Int → Int) (S : Int) (lo hi su db : Int → Int) (dy li so sp : Int) (X : Int → Int → Int) (ke se : Int → Int)  : cI l yX1_sold wsX1_sold ({ frames := 1, cells := 0, slots := 0, locals := 21 }) D (tyS c1 c2 c3) [.ref (h 0)] (wN h c1 th L K Dm S lo hi su db dy li so sp X ke se) (wN h c1 0 L K Dm S lo hi su db dy li so sp X ke se) (zI so) 0 0 := by
  refine cI.of (cc := cX1_sold) (maxL := 1) (ret := .int) (by decide) rfl (lv := [(0, .ref (h 0))]) [0] rfl (Nat.le_of_ble_eq_true rfl) ?_
  intro p e s m args below meth c A C hr
  have C : GC p s m args meth c cX1_sold 1 RX1 wsX1_sold D (tyS c1 c2 c3) A := C
  have hin : ∀ w ∈ wsX10, w ∈ wsX1_sold := fun _ h => List.mem_cons_of_mem _ (List.mem_append_right _ h)
  refine j_aload_n (pc := 0) C dX1_sold_0 0 rfl ?_
  refine j_aload_n (pc := 1) C dX1_sold_1 0 rfl ?_
  refine j_get (pc := 2) C (ref := "GrainSiloModel") (T := TX1) (N := 16) hin 0 rfl rfl 11 (by decide) (C.w 1 rfl) rfl rfl dX1_sold_2 ?_
  refine j_callI (pc := 5) C (As := [.int (zI so)]) (rest := []) (kX1_ok l D h c1 c2 c3 th L K Dm S lo hi su db dy li so sp X ke se so ) (cwV 1 C.2.2.2.2.1 gX1_sold_X1_ok rfl rfl rfl (by decide +kernel) ⟨Nat.le_of_ble_eq_true rfl, Nat.le_of_ble_eq_true rfl⟩) 0 (ci := 1) rfl rfl rfl dX1_sold_5 rfl rfl (Nat.le_of_ble_eq_true rfl) (by decide) ?_
  exact j_iret (pc := 8) C hr dX1_sold_8 (by rfl) (by rfl) (by decide) (by decide)
set_option maxHeartbeats 4000000 in
set_option maxRecDepth 100000 in
theorem kX1_spoilt (l : Launch) (D : va_G) (h : Nat → Nat) (c1 c2 c3 : ClassId) (th L : Int) (K Dm : Int → Int) (S : Int) (lo hi su db : Int → Int) (dy li so sp : Int) (X : Int → Int → Int) (ke se : Int → Int)  : cI l yX1_spoilt wsX1_spoilt ({ frames := 1, cells := 0, slots := 0, locals := 21 }) D (tyS c1 c2 c3) [.ref (h 0)] (wN h c1 th L K Dm S lo hi su db dy li so sp X ke se) (wN h c1 0 L K Dm S lo hi su db dy li so sp X ke se) (zI sp) 0 0 := by
  refine cI.of (cc := cX1_spoilt) (maxL := 1) (ret := .int) (by decide) rfl (lv := [(0, .ref (h 0))]) [0] rfl (Nat.le_of_ble_eq_true rfl) ?_
  intro p e s m args below meth c A C hr
  have C : GC p s m args meth c cX1_spoilt 1 RX1 wsX1_spoilt D (tyS c1 c2 c3) A := C
  have hin : ∀ w ∈ wsX10, w ∈ wsX1_spoilt := fun _ h => List.mem_cons_of_mem _ (List.mem_append_right _ h)
  refine j_aload_n (pc := 0) C dX1_spoilt_0 0 rfl ?_
  refine j_aload_n (pc := 1) C dX1_spoilt_1 0 rfl ?_
  refine j_get (pc := 2) C (ref := "GrainSiloModel") (T := TX1) (N := 16) hin 0 rfl rfl 12 (by decide) (C.w 1 rfl) rfl rfl dX1_spoilt_2 ?_
  refine j_callI (pc := 5) C (As := [.int (zI sp)]) (rest := []) (kX1_ok l D h c1 c2 c3 th L K Dm S lo hi su db dy li so sp X ke se sp ) (cwV 1 C.2.2.2.2.1 gX1_spoilt_X1_ok rfl rfl rfl (by decide +kernel) ⟨Nat.le_of_ble_eq_true rfl, Nat.le_of_ble_eq_true rfl⟩) 0 (ci := 1) rfl rfl rfl dX1_spoilt_5 rfl rfl (Nat.le_of_ble_eq_true rfl) (by decide) ?_
  exact j_iret (pc := 8) C hr dX1_spoilt_8 (by rfl) (by rfl) (by decide) (by decide)
set_option maxHeartbeats 4000000 in
set_option maxRecDepth 100000 in
theorem kX1_ofSample_lo (l : Launch) (D : va_G) (h : Nat → Nat) (c1 c2 c3 : ClassId) (th L : Int) (K Dm : Int → Int) (S : Int) (lo hi su db : Int → Int) (dy li so sp : Int) (X : Int → Int → Int) (ke se : Int → Int) (a : Int) (h0 : 0 ≤ a) (h1 : a < S) (h2 : S ≤ 16) : cI l yX1_ofSample wsX1_ofSample ({ frames := 2, cells := 0, slots := 0, locals := 43 }) D (tyS c1 c2 c3) [.ref (h 0), .int (zI a), .ref (h 3)] (wN h c1 th L K Dm S lo hi su db dy li so sp X ke se) (wN h c1 0 L K Dm S lo hi su db dy li so sp X ke se) (zI (lo a)) 0 0 := by
  refine cI.of (cc := cX1_ofSample) (maxL := 3) (ret := .int) (by decide) rfl (lv := [(0, .ref (h 0)), (1, .int (zI a)), (2, .ref (h 3))]) [0, 1, 2] rfl (Nat.le_of_ble_eq_true rfl) ?_
  intro p e s m args below meth c A C hr
  have C : GC p s m args meth c cX1_ofSample 3 RX1 wsX1_ofSample D (tyS c1 c2 c3) A := C
  have hin : ∀ w ∈ wsX10, w ∈ wsX1_ofSample := fun _ h => List.mem_cons_of_mem _ (List.mem_append_right _ h)
  refine j_aload_n (pc := 0) C dX1_ofSample_0 0 rfl ?_
  refine j_iconst (pc := 1) C dX1_ofSample_1 ?_
  refine j_put (pc := 2) C (ref := "GrainSiloModel") (T := TX1) (N := 16) (ws' := wN h c1 0 L K Dm S lo hi su db dy li so sp X ke se) hin tyX1 tyX1_ok nmX1 0 rfl rfl 0 (by decide) (C.w 1 rfl) rfl rfl (by decide +kernel) (Nat.le_of_ble_eq_true rfl) rfl dX1_ofSample_2 ?_
  refine j_aload_n (pc := 5) C dX1_ofSample_5 0 rfl ?_
  refine j_iload_n (pc := 6) C dX1_ofSample_6 1 rfl ?_
  refine j_callI (pc := 7) C (As := [.int (zI a)]) (rest := []) (kX1_isSample l D h c1 c2 c3 0 L K Dm S lo hi su db dy li so sp X ke se a (by omega) (by omega) ⟨by omega, by omega⟩) (cwV 1 C.2.2.2.2.1 gX1_ofSample_X1_isSample rfl rfl rfl (by decide +kernel) ⟨Nat.le_of_ble_eq_true rfl, Nat.le_of_ble_eq_true rfl⟩) 0 (ci := 1) rfl rfl rfl dX1_ofSample_7 rfl rfl (Nat.le_of_ble_eq_true rfl) (by decide) ?_
  refine j_if_eq (pc := 10) C 19 dX1_ofSample_10 (by decide) ⟨by omega, by omega⟩ (fun c_10 => absurd c_10 (by omega)) (fun c_10 => ?_)
  refine j_aload_n (pc := 13) C dX1_ofSample_13 2 rfl ?_
  refine j_iload_n (pc := 14) C dX1_ofSample_14 1 rfl ?_
  refine j_iald (pc := 15) C 3 0 rfl rfl (by omega) (by omega) (by decide) dX1_ofSample_15 ?_
  refine j_goto (pc := 16) C 24 dX1_ofSample_16 (by decide) ?_
  exact j_iret (pc := 24) C hr dX1_ofSample_24 (by rfl) (by rfl) (by decide) (by decide)
set_option maxHeartbeats 4000000 in
set_option maxRecDepth 100000 in
theorem kX1_ofSample_lo_no1 (l : Launch) (D : va_G) (h : Nat → Nat) (c1 c2 c3 : ClassId) (th L : Int) (K Dm : Int → Int) (S : Int) (lo hi su db : Int → Int) (dy li so sp : Int) (X : Int → Int → Int) (ke se : Int → Int) (a : Int) (hS0 : 0 ≤ S) (hS : S ≤ 16) (ha : zR a) (hn : ¬ (0 ≤ a ∧ a < S)) : cI l yX1_ofSample wsX1_ofSample ({ frames := 2, cells := 0, slots := 0, locals := 43 }) D (tyS c1 c2 c3) [.ref (h 0), .int (zI a), .ref (h 3)] (wN h c1 th L K Dm S lo hi su db dy li so sp X ke se) (wN h c1 1 L K Dm S lo hi su db dy li so sp X ke se) (zI 0) 0 0 := by
  refine cI.of (cc := cX1_ofSample) (maxL := 3) (ret := .int) (by decide) rfl (lv := [(0, .ref (h 0)), (1, .int (zI a)), (2, .ref (h 3))]) [0, 1, 2] rfl (Nat.le_of_ble_eq_true rfl) ?_
  intro p e s m args below meth c A C hr
  have C : GC p s m args meth c cX1_ofSample 3 RX1 wsX1_ofSample D (tyS c1 c2 c3) A := C
  have hin : ∀ w ∈ wsX10, w ∈ wsX1_ofSample := fun _ h => List.mem_cons_of_mem _ (List.mem_append_right _ h)
  obtain ⟨ha1, ha2⟩ := ha
  refine j_aload_n (pc := 0) C dX1_ofSample_0 0 rfl ?_
  refine j_iconst (pc := 1) C dX1_ofSample_1 ?_
  refine j_put (pc := 2) C (ref := "GrainSiloModel") (T := TX1) (N := 16) (ws' := wN h c1 0 L K Dm S lo hi su db dy li so sp X ke se) hin tyX1 tyX1_ok nmX1 0 rfl rfl 0 (by decide) (C.w 1 rfl) rfl rfl (by decide +kernel) (Nat.le_of_ble_eq_true rfl) rfl dX1_ofSample_2 ?_
  refine j_aload_n (pc := 5) C dX1_ofSample_5 0 rfl ?_
  refine j_iload_n (pc := 6) C dX1_ofSample_6 1 rfl ?_
  refine j_callI (pc := 7) C (As := [.int (zI a)]) (rest := []) (kX1_isSample l D h c1 c2 c3 0 L K Dm S lo hi su db dy li so sp X ke se a (by omega) (by omega) ⟨by omega, by omega⟩) (cwV 1 C.2.2.2.2.1 gX1_ofSample_X1_isSample rfl rfl rfl (by decide +kernel) ⟨Nat.le_of_ble_eq_true rfl, Nat.le_of_ble_eq_true rfl⟩) 0 (ci := 1) rfl rfl rfl dX1_ofSample_7 rfl rfl (Nat.le_of_ble_eq_true rfl) (by decide) ?_
  refine j_if_eq (pc := 10) C 19 dX1_ofSample_10 (by decide) ⟨by omega, by omega⟩ (fun c_10 => ?_) (fun c_10 => absurd c_10 (by omega))
  refine j_aload_n (pc := 19) C dX1_ofSample_19 0 rfl ?_
  refine j_iconst (pc := 20) C dX1_ofSample_20 ?_
  refine j_callI (pc := 21) C (As := [.int (zI 1)]) (rest := []) (kX1_no l D h c1 c2 c3 0 L K Dm S lo hi su db dy li so sp X ke se 1 ) (cwV 1 C.2.2.2.2.1 gX1_ofSample_X1_no rfl rfl rfl (by decide +kernel) ⟨Nat.le_of_ble_eq_true rfl, Nat.le_of_ble_eq_true rfl⟩) 0 (ci := 1) rfl rfl rfl dX1_ofSample_21 rfl rfl (Nat.le_of_ble_eq_true rfl) (by decide) ?_
  exact j_iret (pc := 24) C hr dX1_ofSample_24 (by rfl) (by rfl) (by decide) (by decide)
set_option maxHeartbeats 4000000 in
set_option maxRecDepth 100000 in
theorem kX1_lowestOf (l : Launch) (D : va_G) (h : Nat → Nat) (c1 c2 c3 : ClassId) (th L : Int) (K Dm : Int → Int) (S : Int) (lo hi su db : Int → Int) (dy li so sp : Int) (X : Int → Int → Int) (ke se : Int → Int) (a : Int) (h0 : 0 ≤ a) (h1 : a < S) (h2 : S ≤ 16) : cI l yX1_lowestOf wsX1_lowestOf ({ frames := 3, cells := 0, slots := 0, locals := 65 }) D (tyS c1 c2 c3) [.ref (h 0), .int (zI a)] (wN h c1 th L K Dm S lo hi su db dy li so sp X ke se) (wN h c1 0 L K Dm S lo hi su db dy li so sp X ke se) (zI (lo a)) 0 0 := by
  refine cI.of (cc := cX1_lowestOf) (maxL := 2) (ret := .int) (by decide) rfl (lv := [(0, .ref (h 0)), (1, .int (zI a))]) [0, 1] rfl (Nat.le_of_ble_eq_true rfl) ?_
  intro p e s m args below meth c A C hr
  have C : GC p s m args meth c cX1_lowestOf 2 RX1 wsX1_lowestOf D (tyS c1 c2 c3) A := C
  have hin : ∀ w ∈ wsX10, w ∈ wsX1_lowestOf := fun _ h => List.mem_cons_of_mem _ (List.mem_append_right _ h)
  refine j_aload_n (pc := 0) C dX1_lowestOf_0 0 rfl ?_
  refine j_iload_n (pc := 1) C dX1_lowestOf_1 1 rfl ?_
  refine j_aload_n (pc := 2) C dX1_lowestOf_2 0 rfl ?_
  refine j_get (pc := 3) C (ref := "GrainSiloModel") (T := TX1) (N := 16) hin 0 rfl rfl 5 (by decide) (C.w 1 rfl) rfl rfl dX1_lowestOf_3 ?_
  refine j_callI (pc := 6) C (As := [.int (zI a), .ref (h 3)]) (rest := []) (kX1_ofSample_lo l D h c1 c2 c3 th L K Dm S lo hi su db dy li so sp X ke se a (by omega) (by omega) (by omega)) (cwV 2 C.2.2.2.2.1 gX1_lowestOf_X1_ofSample rfl rfl rfl (by decide +kernel) ⟨Nat.le_of_ble_eq_true rfl, Nat.le_of_ble_eq_true rfl⟩) 0 (ci := 1) rfl rfl rfl dX1_lowestOf_6 rfl rfl (Nat.le_of_ble_eq_true rfl) (by decide) ?_
  exact j_iret (pc := 9) C hr dX1_lowestOf_9 (by rfl) (by rfl) (by decide) (by decide)
set_option maxHeartbeats 4000000 in
set_option maxRecDepth 100000 in
theorem kX1_lowestOf_no1 (l : Launch) (D : va_G) (h : Nat → Nat) (c1 c2 c3 : ClassId) (th L : Int) (K Dm : Int → Int) (S : Int) (lo hi su db : Int → Int) (dy li so sp : Int) (X : Int → Int → Int) (ke se : Int → Int) (a : Int) (hS0 : 0 ≤ S) (hS : S ≤ 16) (ha : zR a) (hn : ¬ (0 ≤ a ∧ a < S)) : cI l yX1_lowestOf wsX1_lowestOf ({ frames := 3, cells := 0, slots := 0, locals := 65 }) D (tyS c1 c2 c3) [.ref (h 0), .int (zI a)] (wN h c1 th L K Dm S lo hi su db dy li so sp X ke se) (wN h c1 1 L K Dm S lo hi su db dy li so sp X ke se) (zI 0) 0 0 := by
  refine cI.of (cc := cX1_lowestOf) (maxL := 2) (ret := .int) (by decide) rfl (lv := [(0, .ref (h 0)), (1, .int (zI a))]) [0, 1] rfl (Nat.le_of_ble_eq_true rfl) ?_
  intro p e s m args below meth c A C hr
  have C : GC p s m args meth c cX1_lowestOf 2 RX1 wsX1_lowestOf D (tyS c1 c2 c3) A := C
  have hin : ∀ w ∈ wsX10, w ∈ wsX1_lowestOf := fun _ h => List.mem_cons_of_mem _ (List.mem_append_right _ h)
  obtain ⟨ha1, ha2⟩ := ha
  refine j_aload_n (pc := 0) C dX1_lowestOf_0 0 rfl ?_
  refine j_iload_n (pc := 1) C dX1_lowestOf_1 1 rfl ?_
  refine j_aload_n (pc := 2) C dX1_lowestOf_2 0 rfl ?_
  refine j_get (pc := 3) C (ref := "GrainSiloModel") (T := TX1) (N := 16) hin 0 rfl rfl 5 (by decide) (C.w 1 rfl) rfl rfl dX1_lowestOf_3 ?_
  refine j_callI (pc := 6) C (As := [.int (zI a), .ref (h 3)]) (rest := []) (kX1_ofSample_lo_no1 l D h c1 c2 c3 th L K Dm S lo hi su db dy li so sp X ke se a (by omega) (by omega) ⟨by omega, by omega⟩ hn) (cwV 2 C.2.2.2.2.1 gX1_lowestOf_X1_ofSample rfl rfl rfl (by decide +kernel) ⟨Nat.le_of_ble_eq_true rfl, Nat.le_of_ble_eq_true rfl⟩) 0 (ci := 1) rfl rfl rfl dX1_lowestOf_6 rfl rfl (Nat.le_of_ble_eq_true rfl) (by decide) ?_
  exact j_iret (pc := 9) C hr dX1_lowestOf_9 (by rfl) (by rfl) (by decide) (by decide)
set_option maxHeartbeats 4000000 in
set_option maxRecDepth 100000 in
theorem kX1_ofSample_hi (l : Launch) (D : va_G) (h : Nat → Nat) (c1 c2 c3 : ClassId) (th L : Int) (K Dm : Int → Int) (S : Int) (lo hi su db : Int → Int) (dy li so sp : Int) (X : Int → Int → Int) (ke se : Int → Int) (a : Int) (h0 : 0 ≤ a) (h1 : a < S) (h2 : S ≤ 16) : cI l yX1_ofSample wsX1_ofSample ({ frames := 2, cells := 0, slots := 0, locals := 43 }) D (tyS c1 c2 c3) [.ref (h 0), .int (zI a), .ref (h 4)] (wN h c1 th L K Dm S lo hi su db dy li so sp X ke se) (wN h c1 0 L K Dm S lo hi su db dy li so sp X ke se) (zI (hi a)) 0 0 := by
  refine cI.of (cc := cX1_ofSample) (maxL := 3) (ret := .int) (by decide) rfl (lv := [(0, .ref (h 0)), (1, .int (zI a)), (2, .ref (h 4))]) [0, 1, 2] rfl (Nat.le_of_ble_eq_true rfl) ?_
  intro p e s m args below meth c A C hr
  have C : GC p s m args meth c cX1_ofSample 3 RX1 wsX1_ofSample D (tyS c1 c2 c3) A := C
  have hin : ∀ w ∈ wsX10, w ∈ wsX1_ofSample := fun _ h => List.mem_cons_of_mem _ (List.mem_append_right _ h)
  refine j_aload_n (pc := 0) C dX1_ofSample_0 0 rfl ?_
  refine j_iconst (pc := 1) C dX1_ofSample_1 ?_
  refine j_put (pc := 2) C (ref := "GrainSiloModel") (T := TX1) (N := 16) (ws' := wN h c1 0 L K Dm S lo hi su db dy li so sp X ke se) hin tyX1 tyX1_ok nmX1 0 rfl rfl 0 (by decide) (C.w 1 rfl) rfl rfl (by decide +kernel) (Nat.le_of_ble_eq_true rfl) rfl dX1_ofSample_2 ?_
  refine j_aload_n (pc := 5) C dX1_ofSample_5 0 rfl ?_
  refine j_iload_n (pc := 6) C dX1_ofSample_6 1 rfl ?_
  refine j_callI (pc := 7) C (As := [.int (zI a)]) (rest := []) (kX1_isSample l D h c1 c2 c3 0 L K Dm S lo hi su db dy li so sp X ke se a (by omega) (by omega) ⟨by omega, by omega⟩) (cwV 1 C.2.2.2.2.1 gX1_ofSample_X1_isSample rfl rfl rfl (by decide +kernel) ⟨Nat.le_of_ble_eq_true rfl, Nat.le_of_ble_eq_true rfl⟩) 0 (ci := 1) rfl rfl rfl dX1_ofSample_7 rfl rfl (Nat.le_of_ble_eq_true rfl) (by decide) ?_
  refine j_if_eq (pc := 10) C 19 dX1_ofSample_10 (by decide) ⟨by omega, by omega⟩ (fun c_10 => absurd c_10 (by omega)) (fun c_10 => ?_)
  refine j_aload_n (pc := 13) C dX1_ofSample_13 2 rfl ?_
  refine j_iload_n (pc := 14) C dX1_ofSample_14 1 rfl ?_
  refine j_iald (pc := 15) C 4 0 rfl rfl (by omega) (by omega) (by decide) dX1_ofSample_15 ?_
  refine j_goto (pc := 16) C 24 dX1_ofSample_16 (by decide) ?_
  exact j_iret (pc := 24) C hr dX1_ofSample_24 (by rfl) (by rfl) (by decide) (by decide)
set_option maxHeartbeats 4000000 in
set_option maxRecDepth 100000 in
theorem kX1_ofSample_hi_no1 (l : Launch) (D : va_G) (h : Nat → Nat) (c1 c2 c3 : ClassId) (th L : Int) (K Dm : Int → Int) (S : Int) (lo hi su db : Int → Int) (dy li so sp : Int) (X : Int → Int → Int) (ke se : Int → Int) (a : Int) (hS0 : 0 ≤ S) (hS : S ≤ 16) (ha : zR a) (hn : ¬ (0 ≤ a ∧ a < S)) : cI l yX1_ofSample wsX1_ofSample ({ frames := 2, cells := 0, slots := 0, locals := 43 }) D (tyS c1 c2 c3) [.ref (h 0), .int (zI a), .ref (h 4)] (wN h c1 th L K Dm S lo hi su db dy li so sp X ke se) (wN h c1 1 L K Dm S lo hi su db dy li so sp X ke se) (zI 0) 0 0 := by
  refine cI.of (cc := cX1_ofSample) (maxL := 3) (ret := .int) (by decide) rfl (lv := [(0, .ref (h 0)), (1, .int (zI a)), (2, .ref (h 4))]) [0, 1, 2] rfl (Nat.le_of_ble_eq_true rfl) ?_
  intro p e s m args below meth c A C hr
  have C : GC p s m args meth c cX1_ofSample 3 RX1 wsX1_ofSample D (tyS c1 c2 c3) A := C
  have hin : ∀ w ∈ wsX10, w ∈ wsX1_ofSample := fun _ h => List.mem_cons_of_mem _ (List.mem_append_right _ h)
  obtain ⟨ha1, ha2⟩ := ha
  refine j_aload_n (pc := 0) C dX1_ofSample_0 0 rfl ?_
  refine j_iconst (pc := 1) C dX1_ofSample_1 ?_
  refine j_put (pc := 2) C (ref := "GrainSiloModel") (T := TX1) (N := 16) (ws' := wN h c1 0 L K Dm S lo hi su db dy li so sp X ke se) hin tyX1 tyX1_ok nmX1 0 rfl rfl 0 (by decide) (C.w 1 rfl) rfl rfl (by decide +kernel) (Nat.le_of_ble_eq_true rfl) rfl dX1_ofSample_2 ?_
  refine j_aload_n (pc := 5) C dX1_ofSample_5 0 rfl ?_
  refine j_iload_n (pc := 6) C dX1_ofSample_6 1 rfl ?_
  refine j_callI (pc := 7) C (As := [.int (zI a)]) (rest := []) (kX1_isSample l D h c1 c2 c3 0 L K Dm S lo hi su db dy li so sp X ke se a (by omega) (by omega) ⟨by omega, by omega⟩) (cwV 1 C.2.2.2.2.1 gX1_ofSample_X1_isSample rfl rfl rfl (by decide +kernel) ⟨Nat.le_of_ble_eq_true rfl, Nat.le_of_ble_eq_true rfl⟩) 0 (ci := 1) rfl rfl rfl dX1_ofSample_7 rfl rfl (Nat.le_of_ble_eq_true rfl) (by decide) ?_
  refine j_if_eq (pc := 10) C 19 dX1_ofSample_10 (by decide) ⟨by omega, by omega⟩ (fun c_10 => ?_) (fun c_10 => absurd c_10 (by omega))
  refine j_aload_n (pc := 19) C dX1_ofSample_19 0 rfl ?_
  refine j_iconst (pc := 20) C dX1_ofSample_20 ?_
  refine j_callI (pc := 21) C (As := [.int (zI 1)]) (rest := []) (kX1_no l D h c1 c2 c3 0 L K Dm S lo hi su db dy li so sp X ke se 1 ) (cwV 1 C.2.2.2.2.1 gX1_ofSample_X1_no rfl rfl rfl (by decide +kernel) ⟨Nat.le_of_ble_eq_true rfl, Nat.le_of_ble_eq_true rfl⟩) 0 (ci := 1) rfl rfl rfl dX1_ofSample_21 rfl rfl (Nat.le_of_ble_eq_true rfl) (by decide) ?_
  exact j_iret (pc := 24) C hr dX1_ofSample_24 (by rfl) (by rfl) (by decide) (by decide)
set_option maxHeartbeats 4000000 in
set_option maxRecDepth 100000 in
theorem kX1_highestOf (l : Launch) (D : va_G) (h : Nat → Nat) (c1 c2 c3 : ClassId) (th L : Int) (K Dm : Int → Int) (S : Int) (lo hi su db : Int → Int) (dy li so sp : Int) (X : Int → Int → Int) (ke se : Int → Int) (a : Int) (h0 : 0 ≤ a) (h1 : a < S) (h2 : S ≤ 16) : cI l yX1_highestOf wsX1_highestOf ({ frames := 3, cells := 0, slots := 0, locals := 65 }) D (tyS c1 c2 c3) [.ref (h 0), .int (zI a)] (wN h c1 th L K Dm S lo hi su db dy li so sp X ke se) (wN h c1 0 L K Dm S lo hi su db dy li so sp X ke se) (zI (hi a)) 0 0 := by
  refine cI.of (cc := cX1_highestOf) (maxL := 2) (ret := .int) (by decide) rfl (lv := [(0, .ref (h 0)), (1, .int (zI a))]) [0, 1] rfl (Nat.le_of_ble_eq_true rfl) ?_
  intro p e s m args below meth c A C hr
  have C : GC p s m args meth c cX1_highestOf 2 RX1 wsX1_highestOf D (tyS c1 c2 c3) A := C
  have hin : ∀ w ∈ wsX10, w ∈ wsX1_highestOf := fun _ h => List.mem_cons_of_mem _ (List.mem_append_right _ h)
  refine j_aload_n (pc := 0) C dX1_highestOf_0 0 rfl ?_
  refine j_iload_n (pc := 1) C dX1_highestOf_1 1 rfl ?_
  refine j_aload_n (pc := 2) C dX1_highestOf_2 0 rfl ?_
  refine j_get (pc := 3) C (ref := "GrainSiloModel") (T := TX1) (N := 16) hin 0 rfl rfl 6 (by decide) (C.w 1 rfl) rfl rfl dX1_highestOf_3 ?_
  refine j_callI (pc := 6) C (As := [.int (zI a), .ref (h 4)]) (rest := []) (kX1_ofSample_hi l D h c1 c2 c3 th L K Dm S lo hi su db dy li so sp X ke se a (by omega) (by omega) (by omega)) (cwV 2 C.2.2.2.2.1 gX1_highestOf_X1_ofSample rfl rfl rfl (by decide +kernel) ⟨Nat.le_of_ble_eq_true rfl, Nat.le_of_ble_eq_true rfl⟩) 0 (ci := 1) rfl rfl rfl dX1_highestOf_6 rfl rfl (Nat.le_of_ble_eq_true rfl) (by decide) ?_
  exact j_iret (pc := 9) C hr dX1_highestOf_9 (by rfl) (by rfl) (by decide) (by decide)
set_option maxHeartbeats 4000000 in
set_option maxRecDepth 100000 in
theorem kX1_highestOf_no1 (l : Launch) (D : va_G) (h : Nat → Nat) (c1 c2 c3 : ClassId) (th L : Int) (K Dm : Int → Int) (S : Int) (lo hi su db : Int → Int) (dy li so sp : Int) (X : Int → Int → Int) (ke se : Int → Int) (a : Int) (hS0 : 0 ≤ S) (hS : S ≤ 16) (ha : zR a) (hn : ¬ (0 ≤ a ∧ a < S)) : cI l yX1_highestOf wsX1_highestOf ({ frames := 3, cells := 0, slots := 0, locals := 65 }) D (tyS c1 c2 c3) [.ref (h 0), .int (zI a)] (wN h c1 th L K Dm S lo hi su db dy li so sp X ke se) (wN h c1 1 L K Dm S lo hi su db dy li so sp X ke se) (zI 0) 0 0 := by
  refine cI.of (cc := cX1_highestOf) (maxL := 2) (ret := .int) (by decide) rfl (lv := [(0, .ref (h 0)), (1, .int (zI a))]) [0, 1] rfl (Nat.le_of_ble_eq_true rfl) ?_
  intro p e s m args below meth c A C hr
  have C : GC p s m args meth c cX1_highestOf 2 RX1 wsX1_highestOf D (tyS c1 c2 c3) A := C
  have hin : ∀ w ∈ wsX10, w ∈ wsX1_highestOf := fun _ h => List.mem_cons_of_mem _ (List.mem_append_right _ h)
  obtain ⟨ha1, ha2⟩ := ha
  refine j_aload_n (pc := 0) C dX1_highestOf_0 0 rfl ?_
  refine j_iload_n (pc := 1) C dX1_highestOf_1 1 rfl ?_
  refine j_aload_n (pc := 2) C dX1_highestOf_2 0 rfl ?_
  refine j_get (pc := 3) C (ref := "GrainSiloModel") (T := TX1) (N := 16) hin 0 rfl rfl 6 (by decide) (C.w 1 rfl) rfl rfl dX1_highestOf_3 ?_
  refine j_callI (pc := 6) C (As := [.int (zI a), .ref (h 4)]) (rest := []) (kX1_ofSample_hi_no1 l D h c1 c2 c3 th L K Dm S lo hi su db dy li so sp X ke se a (by omega) (by omega) ⟨by omega, by omega⟩ hn) (cwV 2 C.2.2.2.2.1 gX1_highestOf_X1_ofSample rfl rfl rfl (by decide +kernel) ⟨Nat.le_of_ble_eq_true rfl, Nat.le_of_ble_eq_true rfl⟩) 0 (ci := 1) rfl rfl rfl dX1_highestOf_6 rfl rfl (Nat.le_of_ble_eq_true rfl) (by decide) ?_
  exact j_iret (pc := 9) C hr dX1_highestOf_9 (by rfl) (by rfl) (by decide) (by decide)
set_option maxHeartbeats 4000000 in
set_option maxRecDepth 100000 in
theorem kX1_ofSample_su (l : Launch) (D : va_G) (h : Nat → Nat) (c1 c2 c3 : ClassId) (th L : Int) (K Dm : Int → Int) (S : Int) (lo hi su db : Int → Int) (dy li so sp : Int) (X : Int → Int → Int) (ke se : Int → Int) (a : Int) (h0 : 0 ≤ a) (h1 : a < S) (h2 : S ≤ 16) : cI l yX1_ofSample wsX1_ofSample ({ frames := 2, cells := 0, slots := 0, locals := 43 }) D (tyS c1 c2 c3) [.ref (h 0), .int (zI a), .ref (h 5)] (wN h c1 th L K Dm S lo hi su db dy li so sp X ke se) (wN h c1 0 L K Dm S lo hi su db dy li so sp X ke se) (zI (su a)) 0 0 := by
  refine cI.of (cc := cX1_ofSample) (maxL := 3) (ret := .int) (by decide) rfl (lv := [(0, .ref (h 0)), (1, .int (zI a)), (2, .ref (h 5))]) [0, 1, 2] rfl (Nat.le_of_ble_eq_true rfl) ?_
  intro p e s m args below meth c A C hr
  have C : GC p s m args meth c cX1_ofSample 3 RX1 wsX1_ofSample D (tyS c1 c2 c3) A := C
  have hin : ∀ w ∈ wsX10, w ∈ wsX1_ofSample := fun _ h => List.mem_cons_of_mem _ (List.mem_append_right _ h)
  refine j_aload_n (pc := 0) C dX1_ofSample_0 0 rfl ?_
  refine j_iconst (pc := 1) C dX1_ofSample_1 ?_
  refine j_put (pc := 2) C (ref := "GrainSiloModel") (T := TX1) (N := 16) (ws' := wN h c1 0 L K Dm S lo hi su db dy li so sp X ke se) hin tyX1 tyX1_ok nmX1 0 rfl rfl 0 (by decide) (C.w 1 rfl) rfl rfl (by decide +kernel) (Nat.le_of_ble_eq_true rfl) rfl dX1_ofSample_2 ?_
  refine j_aload_n (pc := 5) C dX1_ofSample_5 0 rfl ?_
  refine j_iload_n (pc := 6) C dX1_ofSample_6 1 rfl ?_
  refine j_callI (pc := 7) C (As := [.int (zI a)]) (rest := []) (kX1_isSample l D h c1 c2 c3 0 L K Dm S lo hi su db dy li so sp X ke se a (by omega) (by omega) ⟨by omega, by omega⟩) (cwV 1 C.2.2.2.2.1 gX1_ofSample_X1_isSample rfl rfl rfl (by decide +kernel) ⟨Nat.le_of_ble_eq_true rfl, Nat.le_of_ble_eq_true rfl⟩) 0 (ci := 1) rfl rfl rfl dX1_ofSample_7 rfl rfl (Nat.le_of_ble_eq_true rfl) (by decide) ?_
  refine j_if_eq (pc := 10) C 19 dX1_ofSample_10 (by decide) ⟨by omega, by omega⟩ (fun c_10 => absurd c_10 (by omega)) (fun c_10 => ?_)
  refine j_aload_n (pc := 13) C dX1_ofSample_13 2 rfl ?_
  refine j_iload_n (pc := 14) C dX1_ofSample_14 1 rfl ?_
  refine j_iald (pc := 15) C 5 0 rfl rfl (by omega) (by omega) (by decide) dX1_ofSample_15 ?_
  refine j_goto (pc := 16) C 24 dX1_ofSample_16 (by decide) ?_
  exact j_iret (pc := 24) C hr dX1_ofSample_24 (by rfl) (by rfl) (by decide) (by decide)
set_option maxHeartbeats 4000000 in
set_option maxRecDepth 100000 in
theorem kX1_ofSample_su_no1 (l : Launch) (D : va_G) (h : Nat → Nat) (c1 c2 c3 : ClassId) (th L : Int) (K Dm : Int → Int) (S : Int) (lo hi su db : Int → Int) (dy li so sp : Int) (X : Int → Int → Int) (ke se : Int → Int) (a : Int) (hS0 : 0 ≤ S) (hS : S ≤ 16) (ha : zR a) (hn : ¬ (0 ≤ a ∧ a < S)) : cI l yX1_ofSample wsX1_ofSample ({ frames := 2, cells := 0, slots := 0, locals := 43 }) D (tyS c1 c2 c3) [.ref (h 0), .int (zI a), .ref (h 5)] (wN h c1 th L K Dm S lo hi su db dy li so sp X ke se) (wN h c1 1 L K Dm S lo hi su db dy li so sp X ke se) (zI 0) 0 0 := by
  refine cI.of (cc := cX1_ofSample) (maxL := 3) (ret := .int) (by decide) rfl (lv := [(0, .ref (h 0)), (1, .int (zI a)), (2, .ref (h 5))]) [0, 1, 2] rfl (Nat.le_of_ble_eq_true rfl) ?_
  intro p e s m args below meth c A C hr
  have C : GC p s m args meth c cX1_ofSample 3 RX1 wsX1_ofSample D (tyS c1 c2 c3) A := C
  have hin : ∀ w ∈ wsX10, w ∈ wsX1_ofSample := fun _ h => List.mem_cons_of_mem _ (List.mem_append_right _ h)
  obtain ⟨ha1, ha2⟩ := ha
  refine j_aload_n (pc := 0) C dX1_ofSample_0 0 rfl ?_
  refine j_iconst (pc := 1) C dX1_ofSample_1 ?_
  refine j_put (pc := 2) C (ref := "GrainSiloModel") (T := TX1) (N := 16) (ws' := wN h c1 0 L K Dm S lo hi su db dy li so sp X ke se) hin tyX1 tyX1_ok nmX1 0 rfl rfl 0 (by decide) (C.w 1 rfl) rfl rfl (by decide +kernel) (Nat.le_of_ble_eq_true rfl) rfl dX1_ofSample_2 ?_
  refine j_aload_n (pc := 5) C dX1_ofSample_5 0 rfl ?_
  refine j_iload_n (pc := 6) C dX1_ofSample_6 1 rfl ?_
  refine j_callI (pc := 7) C (As := [.int (zI a)]) (rest := []) (kX1_isSample l D h c1 c2 c3 0 L K Dm S lo hi su db dy li so sp X ke se a (by omega) (by omega) ⟨by omega, by omega⟩) (cwV 1 C.2.2.2.2.1 gX1_ofSample_X1_isSample rfl rfl rfl (by decide +kernel) ⟨Nat.le_of_ble_eq_true rfl, Nat.le_of_ble_eq_true rfl⟩) 0 (ci := 1) rfl rfl rfl dX1_ofSample_7 rfl rfl (Nat.le_of_ble_eq_true rfl) (by decide) ?_
  refine j_if_eq (pc := 10) C 19 dX1_ofSample_10 (by decide) ⟨by omega, by omega⟩ (fun c_10 => ?_) (fun c_10 => absurd c_10 (by omega))
  refine j_aload_n (pc := 19) C dX1_ofSample_19 0 rfl ?_
  refine j_iconst (pc := 20) C dX1_ofSample_20 ?_
  refine j_callI (pc := 21) C (As := [.int (zI 1)]) (rest := []) (kX1_no l D h c1 c2 c3 0 L K Dm S lo hi su db dy li so sp X ke se 1 ) (cwV 1 C.2.2.2.2.1 gX1_ofSample_X1_no rfl rfl rfl (by decide +kernel) ⟨Nat.le_of_ble_eq_true rfl, Nat.le_of_ble_eq_true rfl⟩) 0 (ci := 1) rfl rfl rfl dX1_ofSample_21 rfl rfl (Nat.le_of_ble_eq_true rfl) (by decide) ?_
  exact j_iret (pc := 24) C hr dX1_ofSample_24 (by rfl) (by rfl) (by decide) (by decide)
set_option maxHeartbeats 4000000 in
set_option maxRecDepth 100000 in
theorem kX1_sumOf (l : Launch) (D : va_G) (h : Nat → Nat) (c1 c2 c3 : ClassId) (th L : Int) (K Dm : Int → Int) (S : Int) (lo hi su db : Int → Int) (dy li so sp : Int) (X : Int → Int → Int) (ke se : Int → Int) (a : Int) (h0 : 0 ≤ a) (h1 : a < S) (h2 : S ≤ 16) : cI l yX1_sumOf wsX1_sumOf ({ frames := 3, cells := 0, slots := 0, locals := 65 }) D (tyS c1 c2 c3) [.ref (h 0), .int (zI a)] (wN h c1 th L K Dm S lo hi su db dy li so sp X ke se) (wN h c1 0 L K Dm S lo hi su db dy li so sp X ke se) (zI (su a)) 0 0 := by
  refine cI.of (cc := cX1_sumOf) (maxL := 2) (ret := .int) (by decide) rfl (lv := [(0, .ref (h 0)), (1, .int (zI a))]) [0, 1] rfl (Nat.le_of_ble_eq_true rfl) ?_
  intro p e s m args below meth c A C hr
  have C : GC p s m args meth c cX1_sumOf 2 RX1 wsX1_sumOf D (tyS c1 c2 c3) A := C
  have hin : ∀ w ∈ wsX10, w ∈ wsX1_sumOf := fun _ h => List.mem_cons_of_mem _ (List.mem_append_right _ h)
  refine j_aload_n (pc := 0) C dX1_sumOf_0 0 rfl ?_
  refine j_iload_n (pc := 1) C dX1_sumOf_1 1 rfl ?_
  refine j_aload_n (pc := 2) C dX1_sumOf_2 0 rfl ?_
  refine j_get (pc := 3) C (ref := "GrainSiloModel") (T := TX1) (N := 16) hin 0 rfl rfl 7 (by decide) (C.w 1 rfl) rfl rfl dX1_sumOf_3 ?_
  refine j_callI (pc := 6) C (As := [.int (zI a), .ref (h 5)]) (rest := []) (kX1_ofSample_su l D h c1 c2 c3 th L K Dm S lo hi su db dy li so sp X ke se a (by omega) (by omega) (by omega)) (cwV 2 C.2.2.2.2.1 gX1_sumOf_X1_ofSample rfl rfl rfl (by decide +kernel) ⟨Nat.le_of_ble_eq_true rfl, Nat.le_of_ble_eq_true rfl⟩) 0 (ci := 1) rfl rfl rfl dX1_sumOf_6 rfl rfl (Nat.le_of_ble_eq_true rfl) (by decide) ?_
  exact j_iret (pc := 9) C hr dX1_sumOf_9 (by rfl) (by rfl) (by decide) (by decide)
set_option maxHeartbeats 4000000 in
set_option maxRecDepth 100000 in
theorem kX1_sumOf_no1 (l : Launch) (D : va_G) (h : Nat → Nat) (c1 c2 c3 : ClassId) (th L : Int) (K Dm : Int → Int) (S : Int) (lo hi su db : Int → Int) (dy li so sp : Int) (X : Int → Int → Int) (ke se : Int → Int) (a : Int) (hS0 : 0 ≤ S) (hS : S ≤ 16) (ha : zR a) (hn : ¬ (0 ≤ a ∧ a < S)) : cI l yX1_sumOf wsX1_sumOf ({ frames := 3, cells := 0, slots := 0, locals := 65 }) D (tyS c1 c2 c3) [.ref (h 0), .int (zI a)] (wN h c1 th L K Dm S lo hi su db dy li so sp X ke se) (wN h c1 1 L K Dm S lo hi su db dy li so sp X ke se) (zI 0) 0 0 := by
  refine cI.of (cc := cX1_sumOf) (maxL := 2) (ret := .int) (by decide) rfl (lv := [(0, .ref (h 0)), (1, .int (zI a))]) [0, 1] rfl (Nat.le_of_ble_eq_true rfl) ?_
  intro p e s m args below meth c A C hr
  have C : GC p s m args meth c cX1_sumOf 2 RX1 wsX1_sumOf D (tyS c1 c2 c3) A := C
  have hin : ∀ w ∈ wsX10, w ∈ wsX1_sumOf := fun _ h => List.mem_cons_of_mem _ (List.mem_append_right _ h)
  obtain ⟨ha1, ha2⟩ := ha
  refine j_aload_n (pc := 0) C dX1_sumOf_0 0 rfl ?_
  refine j_iload_n (pc := 1) C dX1_sumOf_1 1 rfl ?_
  refine j_aload_n (pc := 2) C dX1_sumOf_2 0 rfl ?_
  refine j_get (pc := 3) C (ref := "GrainSiloModel") (T := TX1) (N := 16) hin 0 rfl rfl 7 (by decide) (C.w 1 rfl) rfl rfl dX1_sumOf_3 ?_
  refine j_callI (pc := 6) C (As := [.int (zI a), .ref (h 5)]) (rest := []) (kX1_ofSample_su_no1 l D h c1 c2 c3 th L K Dm S lo hi su db dy li so sp X ke se a (by omega) (by omega) ⟨by omega, by omega⟩ hn) (cwV 2 C.2.2.2.2.1 gX1_sumOf_X1_ofSample rfl rfl rfl (by decide +kernel) ⟨Nat.le_of_ble_eq_true rfl, Nat.le_of_ble_eq_true rfl⟩) 0 (ci := 1) rfl rfl rfl dX1_sumOf_6 rfl rfl (Nat.le_of_ble_eq_true rfl) (by decide) ?_
  exact j_iret (pc := 9) C hr dX1_sumOf_9 (by rfl) (by rfl) (by decide) (by decide)
set_option maxHeartbeats 4000000 in
set_option maxRecDepth 100000 in
theorem kX1_ofSample_db (l : Launch) (D : va_G) (h : Nat → Nat) (c1 c2 c3 : ClassId) (th L : Int) (K Dm : Int → Int) (S : Int) (lo hi su db : Int → Int) (dy li so sp : Int) (X : Int → Int → Int) (ke se : Int → Int) (a : Int) (h0 : 0 ≤ a) (h1 : a < S) (h2 : S ≤ 16) : cI l yX1_ofSample wsX1_ofSample ({ frames := 2, cells := 0, slots := 0, locals := 43 }) D (tyS c1 c2 c3) [.ref (h 0), .int (zI a), .ref (h 6)] (wN h c1 th L K Dm S lo hi su db dy li so sp X ke se) (wN h c1 0 L K Dm S lo hi su db dy li so sp X ke se) (zI (db a)) 0 0 := by
  refine cI.of (cc := cX1_ofSample) (maxL := 3) (ret := .int) (by decide) rfl (lv := [(0, .ref (h 0)), (1, .int (zI a)), (2, .ref (h 6))]) [0, 1, 2] rfl (Nat.le_of_ble_eq_true rfl) ?_
  intro p e s m args below meth c A C hr
  have C : GC p s m args meth c cX1_ofSample 3 RX1 wsX1_ofSample D (tyS c1 c2 c3) A := C
  have hin : ∀ w ∈ wsX10, w ∈ wsX1_ofSample := fun _ h => List.mem_cons_of_mem _ (List.mem_append_right _ h)
  refine j_aload_n (pc := 0) C dX1_ofSample_0 0 rfl ?_
  refine j_iconst (pc := 1) C dX1_ofSample_1 ?_
  refine j_put (pc := 2) C (ref := "GrainSiloModel") (T := TX1) (N := 16) (ws' := wN h c1 0 L K Dm S lo hi su db dy li so sp X ke se) hin tyX1 tyX1_ok nmX1 0 rfl rfl 0 (by decide) (C.w 1 rfl) rfl rfl (by decide +kernel) (Nat.le_of_ble_eq_true rfl) rfl dX1_ofSample_2 ?_
  refine j_aload_n (pc := 5) C dX1_ofSample_5 0 rfl ?_
  refine j_iload_n (pc := 6) C dX1_ofSample_6 1 rfl ?_
  refine j_callI (pc := 7) C (As := [.int (zI a)]) (rest := []) (kX1_isSample l D h c1 c2 c3 0 L K Dm S lo hi su db dy li so sp X ke se a (by omega) (by omega) ⟨by omega, by omega⟩) (cwV 1 C.2.2.2.2.1 gX1_ofSample_X1_isSample rfl rfl rfl (by decide +kernel) ⟨Nat.le_of_ble_eq_true rfl, Nat.le_of_ble_eq_true rfl⟩) 0 (ci := 1) rfl rfl rfl dX1_ofSample_7 rfl rfl (Nat.le_of_ble_eq_true rfl) (by decide) ?_
  refine j_if_eq (pc := 10) C 19 dX1_ofSample_10 (by decide) ⟨by omega, by omega⟩ (fun c_10 => absurd c_10 (by omega)) (fun c_10 => ?_)
  refine j_aload_n (pc := 13) C dX1_ofSample_13 2 rfl ?_
  refine j_iload_n (pc := 14) C dX1_ofSample_14 1 rfl ?_
  refine j_iald (pc := 15) C 6 0 rfl rfl (by omega) (by omega) (by decide) dX1_ofSample_15 ?_
  refine j_goto (pc := 16) C 24 dX1_ofSample_16 (by decide) ?_
  exact j_iret (pc := 24) C hr dX1_ofSample_24 (by rfl) (by rfl) (by decide) (by decide)
set_option maxHeartbeats 4000000 in
set_option maxRecDepth 100000 in
theorem kX1_ofSample_db_no1 (l : Launch) (D : va_G) (h : Nat → Nat) (c1 c2 c3 : ClassId) (th L : Int) (K Dm : Int → Int) (S : Int) (lo hi su db : Int → Int) (dy li so sp : Int) (X : Int → Int → Int) (ke se : Int → Int) (a : Int) (hS0 : 0 ≤ S) (hS : S ≤ 16) (ha : zR a) (hn : ¬ (0 ≤ a ∧ a < S)) : cI l yX1_ofSample wsX1_ofSample ({ frames := 2, cells := 0, slots := 0, locals := 43 }) D (tyS c1 c2 c3) [.ref (h 0), .int (zI a), .ref (h 6)] (wN h c1 th L K Dm S lo hi su db dy li so sp X ke se) (wN h c1 1 L K Dm S lo hi su db dy li so sp X ke se) (zI 0) 0 0 := by
  refine cI.of (cc := cX1_ofSample) (maxL := 3) (ret := .int) (by decide) rfl (lv := [(0, .ref (h 0)), (1, .int (zI a)), (2, .ref (h 6))]) [0, 1, 2] rfl (Nat.le_of_ble_eq_true rfl) ?_
  intro p e s m args below meth c A C hr
  have C : GC p s m args meth c cX1_ofSample 3 RX1 wsX1_ofSample D (tyS c1 c2 c3) A := C
  have hin : ∀ w ∈ wsX10, w ∈ wsX1_ofSample := fun _ h => List.mem_cons_of_mem _ (List.mem_append_right _ h)
  obtain ⟨ha1, ha2⟩ := ha
  refine j_aload_n (pc := 0) C dX1_ofSample_0 0 rfl ?_
  refine j_iconst (pc := 1) C dX1_ofSample_1 ?_
  refine j_put (pc := 2) C (ref := "GrainSiloModel") (T := TX1) (N := 16) (ws' := wN h c1 0 L K Dm S lo hi su db dy li so sp X ke se) hin tyX1 tyX1_ok nmX1 0 rfl rfl 0 (by decide) (C.w 1 rfl) rfl rfl (by decide +kernel) (Nat.le_of_ble_eq_true rfl) rfl dX1_ofSample_2 ?_
  refine j_aload_n (pc := 5) C dX1_ofSample_5 0 rfl ?_
  refine j_iload_n (pc := 6) C dX1_ofSample_6 1 rfl ?_
  refine j_callI (pc := 7) C (As := [.int (zI a)]) (rest := []) (kX1_isSample l D h c1 c2 c3 0 L K Dm S lo hi su db dy li so sp X ke se a (by omega) (by omega) ⟨by omega, by omega⟩) (cwV 1 C.2.2.2.2.1 gX1_ofSample_X1_isSample rfl rfl rfl (by decide +kernel) ⟨Nat.le_of_ble_eq_true rfl, Nat.le_of_ble_eq_true rfl⟩) 0 (ci := 1) rfl rfl rfl dX1_ofSample_7 rfl rfl (Nat.le_of_ble_eq_true rfl) (by decide) ?_
  refine j_if_eq (pc := 10) C 19 dX1_ofSample_10 (by decide) ⟨by omega, by omega⟩ (fun c_10 => ?_) (fun c_10 => absurd c_10 (by omega))
  refine j_aload_n (pc := 19) C dX1_ofSample_19 0 rfl ?_
  refine j_iconst (pc := 20) C dX1_ofSample_20 ?_
  refine j_callI (pc := 21) C (As := [.int (zI 1)]) (rest := []) (kX1_no l D h c1 c2 c3 0 L K Dm S lo hi su db dy li so sp X ke se 1 ) (cwV 1 C.2.2.2.2.1 gX1_ofSample_X1_no rfl rfl rfl (by decide +kernel) ⟨Nat.le_of_ble_eq_true rfl, Nat.le_of_ble_eq_true rfl⟩) 0 (ci := 1) rfl rfl rfl dX1_ofSample_21 rfl rfl (Nat.le_of_ble_eq_true rfl) (by decide) ?_
  exact j_iret (pc := 24) C hr dX1_ofSample_24 (by rfl) (by rfl) (by decide) (by decide)
set_option maxHeartbeats 4000000 in
set_option maxRecDepth 100000 in
theorem kX1_doubtOf (l : Launch) (D : va_G) (h : Nat → Nat) (c1 c2 c3 : ClassId) (th L : Int) (K Dm : Int → Int) (S : Int) (lo hi su db : Int → Int) (dy li so sp : Int) (X : Int → Int → Int) (ke se : Int → Int) (a : Int) (h0 : 0 ≤ a) (h1 : a < S) (h2 : S ≤ 16) : cI l yX1_doubtOf wsX1_doubtOf ({ frames := 3, cells := 0, slots := 0, locals := 65 }) D (tyS c1 c2 c3) [.ref (h 0), .int (zI a)] (wN h c1 th L K Dm S lo hi su db dy li so sp X ke se) (wN h c1 0 L K Dm S lo hi su db dy li so sp X ke se) (zI (db a)) 0 0 := by
  refine cI.of (cc := cX1_doubtOf) (maxL := 2) (ret := .int) (by decide) rfl (lv := [(0, .ref (h 0)), (1, .int (zI a))]) [0, 1] rfl (Nat.le_of_ble_eq_true rfl) ?_
  intro p e s m args below meth c A C hr
  have C : GC p s m args meth c cX1_doubtOf 2 RX1 wsX1_doubtOf D (tyS c1 c2 c3) A := C
  have hin : ∀ w ∈ wsX10, w ∈ wsX1_doubtOf := fun _ h => List.mem_cons_of_mem _ (List.mem_append_right _ h)
  refine j_aload_n (pc := 0) C dX1_doubtOf_0 0 rfl ?_
  refine j_iload_n (pc := 1) C dX1_doubtOf_1 1 rfl ?_
  refine j_aload_n (pc := 2) C dX1_doubtOf_2 0 rfl ?_
  refine j_get (pc := 3) C (ref := "GrainSiloModel") (T := TX1) (N := 16) hin 0 rfl rfl 8 (by decide) (C.w 1 rfl) rfl rfl dX1_doubtOf_3 ?_
  refine j_callI (pc := 6) C (As := [.int (zI a), .ref (h 6)]) (rest := []) (kX1_ofSample_db l D h c1 c2 c3 th L K Dm S lo hi su db dy li so sp X ke se a (by omega) (by omega) (by omega)) (cwV 2 C.2.2.2.2.1 gX1_doubtOf_X1_ofSample rfl rfl rfl (by decide +kernel) ⟨Nat.le_of_ble_eq_true rfl, Nat.le_of_ble_eq_true rfl⟩) 0 (ci := 1) rfl rfl rfl dX1_doubtOf_6 rfl rfl (Nat.le_of_ble_eq_true rfl) (by decide) ?_
  exact j_iret (pc := 9) C hr dX1_doubtOf_9 (by rfl) (by rfl) (by decide) (by decide)
set_option maxHeartbeats 4000000 in
set_option maxRecDepth 100000 in
theorem kX1_doubtOf_no1 (l : Launch) (D : va_G) (h : Nat → Nat) (c1 c2 c3 : ClassId) (th L : Int) (K Dm : Int → Int) (S : Int) (lo hi su db : Int → Int) (dy li so sp : Int) (X : Int → Int → Int) (ke se : Int → Int) (a : Int) (hS0 : 0 ≤ S) (hS : S ≤ 16) (ha : zR a) (hn : ¬ (0 ≤ a ∧ a < S)) : cI l yX1_doubtOf wsX1_doubtOf ({ frames := 3, cells := 0, slots := 0, locals := 65 }) D (tyS c1 c2 c3) [.ref (h 0), .int (zI a)] (wN h c1 th L K Dm S lo hi su db dy li so sp X ke se) (wN h c1 1 L K Dm S lo hi su db dy li so sp X ke se) (zI 0) 0 0 := by
  refine cI.of (cc := cX1_doubtOf) (maxL := 2) (ret := .int) (by decide) rfl (lv := [(0, .ref (h 0)), (1, .int (zI a))]) [0, 1] rfl (Nat.le_of_ble_eq_true rfl) ?_
  intro p e s m args below meth c A C hr
  have C : GC p s m args meth c cX1_doubtOf 2 RX1 wsX1_doubtOf D (tyS c1 c2 c3) A := C
  have hin : ∀ w ∈ wsX10, w ∈ wsX1_doubtOf := fun _ h => List.mem_cons_of_mem _ (List.mem_append_right _ h)
  obtain ⟨ha1, ha2⟩ := ha
  refine j_aload_n (pc := 0) C dX1_doubtOf_0 0 rfl ?_
  refine j_iload_n (pc := 1) C dX1_doubtOf_1 1 rfl ?_
  refine j_aload_n (pc := 2) C dX1_doubtOf_2 0 rfl ?_
  refine j_get (pc := 3) C (ref := "GrainSiloModel") (T := TX1) (N := 16) hin 0 rfl rfl 8 (by decide) (C.w 1 rfl) rfl rfl dX1_doubtOf_3 ?_
  refine j_callI (pc := 6) C (As := [.int (zI a), .ref (h 6)]) (rest := []) (kX1_ofSample_db_no1 l D h c1 c2 c3 th L K Dm S lo hi su db dy li so sp X ke se a (by omega) (by omega) ⟨by omega, by omega⟩ hn) (cwV 2 C.2.2.2.2.1 gX1_doubtOf_X1_ofSample rfl rfl rfl (by decide +kernel) ⟨Nat.le_of_ble_eq_true rfl, Nat.le_of_ble_eq_true rfl⟩) 0 (ci := 1) rfl rfl rfl dX1_doubtOf_6 rfl rfl (Nat.le_of_ble_eq_true rfl) (by decide) ?_
  exact j_iret (pc := 9) C hr dX1_doubtOf_9 (by rfl) (by rfl) (by decide) (by decide)
set_option maxHeartbeats 4000000 in
set_option maxRecDepth 100000 in
theorem kX1_kindOf (l : Launch) (D : va_G) (h : Nat → Nat) (c1 c2 c3 : ClassId) (th L : Int) (K Dm : Int → Int) (S : Int) (lo hi su db : Int → Int) (dy li so sp : Int) (X : Int → Int → Int) (ke se : Int → Int) (a : Int) (h0 : 0 ≤ a) (h1 : a < L) (h2 : L ≤ 12) : cI l yX1_kindOf wsX1_kindOf ({ frames := 2, cells := 0, slots := 0, locals := 43 }) D (tyS c1 c2 c3) [.ref (h 0), .int (zI a)] (wN h c1 th L K Dm S lo hi su db dy li so sp X ke se) (wN h c1 0 L K Dm S lo hi su db dy li so sp X ke se) (zI (K a)) 0 0 := by
  refine cI.of (cc := cX1_kindOf) (maxL := 2) (ret := .int) (by decide) rfl (lv := [(0, .ref (h 0)), (1, .int (zI a))]) [0, 1] rfl (Nat.le_of_ble_eq_true rfl) ?_
  intro p e s m args below meth c A C hr
  have C : GC p s m args meth c cX1_kindOf 2 RX1 wsX1_kindOf D (tyS c1 c2 c3) A := C
  have hin : ∀ w ∈ wsX10, w ∈ wsX1_kindOf := fun _ h => List.mem_cons_of_mem _ (List.mem_append_right _ h)
  refine j_aload_n (pc := 0) C dX1_kindOf_0 0 rfl ?_
  refine j_iconst (pc := 1) C dX1_kindOf_1 ?_
  refine j_put (pc := 2) C (ref := "GrainSiloModel") (T := TX1) (N := 16) (ws' := wN h c1 0 L K Dm S lo hi su db dy li so sp X ke se) hin tyX1 tyX1_ok nmX1 0 rfl rfl 0 (by decide) (C.w 1 rfl) rfl rfl (by decide +kernel) (Nat.le_of_ble_eq_true rfl) rfl dX1_kindOf_2 ?_
  refine j_aload_n (pc := 5) C dX1_kindOf_5 0 rfl ?_
  refine j_iload_n (pc := 6) C dX1_kindOf_6 1 rfl ?_
  refine j_callI (pc := 7) C (As := [.int (zI a)]) (rest := []) (kX1_isLayer l D h c1 c2 c3 0 L K Dm S lo hi su db dy li so sp X ke se a (by omega) (by omega) ⟨by omega, by omega⟩) (cwV 1 C.2.2.2.2.1 gX1_kindOf_X1_isLayer rfl rfl rfl (by decide +kernel) ⟨Nat.le_of_ble_eq_true rfl, Nat.le_of_ble_eq_true rfl⟩) 0 (ci := 1) rfl rfl rfl dX1_kindOf_7 rfl rfl (Nat.le_of_ble_eq_true rfl) (by decide) ?_
  refine j_if_eq (pc := 10) C 22 dX1_kindOf_10 (by decide) ⟨by omega, by omega⟩ (fun c_10 => absurd c_10 (by omega)) (fun c_10 => ?_)
  refine j_aload_n (pc := 13) C dX1_kindOf_13 0 rfl ?_
  refine j_get (pc := 14) C (ref := "GrainSiloModel") (T := TX1) (N := 16) hin 0 rfl rfl 2 (by decide) (C.w 2 rfl) rfl rfl dX1_kindOf_14 ?_
  refine j_iload_n (pc := 17) C dX1_kindOf_17 1 rfl ?_
  refine j_iald (pc := 18) C 1 0 rfl rfl (by omega) (by omega) (by decide) dX1_kindOf_18 ?_
  refine j_goto (pc := 19) C 27 dX1_kindOf_19 (by decide) ?_
  exact j_iret (pc := 27) C hr dX1_kindOf_27 (by rfl) (by rfl) (by decide) (by decide)
set_option maxHeartbeats 4000000 in
set_option maxRecDepth 100000 in
theorem kX1_kindOf_no1 (l : Launch) (D : va_G) (h : Nat → Nat) (c1 c2 c3 : ClassId) (th L : Int) (K Dm : Int → Int) (S : Int) (lo hi su db : Int → Int) (dy li so sp : Int) (X : Int → Int → Int) (ke se : Int → Int) (a : Int) (hL0 : 0 ≤ L) (hL : L ≤ 12) (ha : zR a) (hn : ¬ (0 ≤ a ∧ a < L)) : cI l yX1_kindOf wsX1_kindOf ({ frames := 2, cells := 0, slots := 0, locals := 43 }) D (tyS c1 c2 c3) [.ref (h 0), .int (zI a)] (wN h c1 th L K Dm S lo hi su db dy li so sp X ke se) (wN h c1 1 L K Dm S lo hi su db dy li so sp X ke se) (zI 0) 0 0 := by
  refine cI.of (cc := cX1_kindOf) (maxL := 2) (ret := .int) (by decide) rfl (lv := [(0, .ref (h 0)), (1, .int (zI a))]) [0, 1] rfl (Nat.le_of_ble_eq_true rfl) ?_
  intro p e s m args below meth c A C hr
  have C : GC p s m args meth c cX1_kindOf 2 RX1 wsX1_kindOf D (tyS c1 c2 c3) A := C
  have hin : ∀ w ∈ wsX10, w ∈ wsX1_kindOf := fun _ h => List.mem_cons_of_mem _ (List.mem_append_right _ h)
  obtain ⟨ha1, ha2⟩ := ha
  refine j_aload_n (pc := 0) C dX1_kindOf_0 0 rfl ?_
  refine j_iconst (pc := 1) C dX1_kindOf_1 ?_
  refine j_put (pc := 2) C (ref := "GrainSiloModel") (T := TX1) (N := 16) (ws' := wN h c1 0 L K Dm S lo hi su db dy li so sp X ke se) hin tyX1 tyX1_ok nmX1 0 rfl rfl 0 (by decide) (C.w 1 rfl) rfl rfl (by decide +kernel) (Nat.le_of_ble_eq_true rfl) rfl dX1_kindOf_2 ?_
  refine j_aload_n (pc := 5) C dX1_kindOf_5 0 rfl ?_
  refine j_iload_n (pc := 6) C dX1_kindOf_6 1 rfl ?_
  refine j_callI (pc := 7) C (As := [.int (zI a)]) (rest := []) (kX1_isLayer l D h c1 c2 c3 0 L K Dm S lo hi su db dy li so sp X ke se a (by omega) (by omega) ⟨by omega, by omega⟩) (cwV 1 C.2.2.2.2.1 gX1_kindOf_X1_isLayer rfl rfl rfl (by decide +kernel) ⟨Nat.le_of_ble_eq_true rfl, Nat.le_of_ble_eq_true rfl⟩) 0 (ci := 1) rfl rfl rfl dX1_kindOf_7 rfl rfl (Nat.le_of_ble_eq_true rfl) (by decide) ?_
  refine j_if_eq (pc := 10) C 22 dX1_kindOf_10 (by decide) ⟨by omega, by omega⟩ (fun c_10 => ?_) (fun c_10 => absurd c_10 (by omega))
  refine j_aload_n (pc := 22) C dX1_kindOf_22 0 rfl ?_
  refine j_iconst (pc := 23) C dX1_kindOf_23 ?_
  refine j_callI (pc := 24) C (As := [.int (zI 1)]) (rest := []) (kX1_no l D h c1 c2 c3 0 L K Dm S lo hi su db dy li so sp X ke se 1 ) (cwV 1 C.2.2.2.2.1 gX1_kindOf_X1_no rfl rfl rfl (by decide +kernel) ⟨Nat.le_of_ble_eq_true rfl, Nat.le_of_ble_eq_true rfl⟩) 0 (ci := 1) rfl rfl rfl dX1_kindOf_24 rfl rfl (Nat.le_of_ble_eq_true rfl) (by decide) ?_
  exact j_iret (pc := 27) C hr dX1_kindOf_27 (by rfl) (by rfl) (by decide) (by decide)
set_option maxHeartbeats 4000000 in
set_option maxRecDepth 100000 in
theorem kX1_dampnessOf (l : Launch) (D : va_G) (h : Nat → Nat) (c1 c2 c3 : ClassId) (th L : Int) (K Dm : Int → Int) (S : Int) (lo hi su db : Int → Int) (dy li so sp : Int) (X : Int → Int → Int) (ke se : Int → Int) (a : Int) (h0 : 0 ≤ a) (h1 : a < L) (h2 : L ≤ 12) : cI l yX1_dampnessOf wsX1_dampnessOf ({ frames := 2, cells := 0, slots := 0, locals := 43 }) D (tyS c1 c2 c3) [.ref (h 0), .int (zI a)] (wN h c1 th L K Dm S lo hi su db dy li so sp X ke se) (wN h c1 0 L K Dm S lo hi su db dy li so sp X ke se) (zI (Dm a)) 0 0 := by
  refine cI.of (cc := cX1_dampnessOf) (maxL := 2) (ret := .int) (by decide) rfl (lv := [(0, .ref (h 0)), (1, .int (zI a))]) [0, 1] rfl (Nat.le_of_ble_eq_true rfl) ?_
  intro p e s m args below meth c A C hr
  have C : GC p s m args meth c cX1_dampnessOf 2 RX1 wsX1_dampnessOf D (tyS c1 c2 c3) A := C
  have hin : ∀ w ∈ wsX10, w ∈ wsX1_dampnessOf := fun _ h => List.mem_cons_of_mem _ (List.mem_append_right _ h)
  refine j_aload_n (pc := 0) C dX1_dampnessOf_0 0 rfl ?_
  refine j_iconst (pc := 1) C dX1_dampnessOf_1 ?_
  refine j_put (pc := 2) C (ref := "GrainSiloModel") (T := TX1) (N := 16) (ws' := wN h c1 0 L K Dm S lo hi su db dy li so sp X ke se) hin tyX1 tyX1_ok nmX1 0 rfl rfl 0 (by decide) (C.w 1 rfl) rfl rfl (by decide +kernel) (Nat.le_of_ble_eq_true rfl) rfl dX1_dampnessOf_2 ?_
  refine j_aload_n (pc := 5) C dX1_dampnessOf_5 0 rfl ?_
  refine j_iload_n (pc := 6) C dX1_dampnessOf_6 1 rfl ?_
  refine j_callI (pc := 7) C (As := [.int (zI a)]) (rest := []) (kX1_isLayer l D h c1 c2 c3 0 L K Dm S lo hi su db dy li so sp X ke se a (by omega) (by omega) ⟨by omega, by omega⟩) (cwV 1 C.2.2.2.2.1 gX1_dampnessOf_X1_isLayer rfl rfl rfl (by decide +kernel) ⟨Nat.le_of_ble_eq_true rfl, Nat.le_of_ble_eq_true rfl⟩) 0 (ci := 1) rfl rfl rfl dX1_dampnessOf_7 rfl rfl (Nat.le_of_ble_eq_true rfl) (by decide) ?_
  refine j_if_eq (pc := 10) C 22 dX1_dampnessOf_10 (by decide) ⟨by omega, by omega⟩ (fun c_10 => absurd c_10 (by omega)) (fun c_10 => ?_)
  refine j_aload_n (pc := 13) C dX1_dampnessOf_13 0 rfl ?_
  refine j_get (pc := 14) C (ref := "GrainSiloModel") (T := TX1) (N := 16) hin 0 rfl rfl 3 (by decide) (C.w 2 rfl) rfl rfl dX1_dampnessOf_14 ?_
  refine j_iload_n (pc := 17) C dX1_dampnessOf_17 1 rfl ?_
  refine j_iald (pc := 18) C 2 0 rfl rfl (by omega) (by omega) (by decide) dX1_dampnessOf_18 ?_
  refine j_goto (pc := 19) C 27 dX1_dampnessOf_19 (by decide) ?_
  exact j_iret (pc := 27) C hr dX1_dampnessOf_27 (by rfl) (by rfl) (by decide) (by decide)
set_option maxHeartbeats 4000000 in
set_option maxRecDepth 100000 in
theorem kX1_dampnessOf_no1 (l : Launch) (D : va_G) (h : Nat → Nat) (c1 c2 c3 : ClassId) (th L : Int) (K Dm : Int → Int) (S : Int) (lo hi su db : Int → Int) (dy li so sp : Int) (X : Int → Int → Int) (ke se : Int → Int) (a : Int) (hL0 : 0 ≤ L) (hL : L ≤ 12) (ha : zR a) (hn : ¬ (0 ≤ a ∧ a < L)) : cI l yX1_dampnessOf wsX1_dampnessOf ({ frames := 2, cells := 0, slots := 0, locals := 43 }) D (tyS c1 c2 c3) [.ref (h 0), .int (zI a)] (wN h c1 th L K Dm S lo hi su db dy li so sp X ke se) (wN h c1 1 L K Dm S lo hi su db dy li so sp X ke se) (zI 0) 0 0 := by
  refine cI.of (cc := cX1_dampnessOf) (maxL := 2) (ret := .int) (by decide) rfl (lv := [(0, .ref (h 0)), (1, .int (zI a))]) [0, 1] rfl (Nat.le_of_ble_eq_true rfl) ?_
  intro p e s m args below meth c A C hr
  have C : GC p s m args meth c cX1_dampnessOf 2 RX1 wsX1_dampnessOf D (tyS c1 c2 c3) A := C
  have hin : ∀ w ∈ wsX10, w ∈ wsX1_dampnessOf := fun _ h => List.mem_cons_of_mem _ (List.mem_append_right _ h)
  obtain ⟨ha1, ha2⟩ := ha
  refine j_aload_n (pc := 0) C dX1_dampnessOf_0 0 rfl ?_
  refine j_iconst (pc := 1) C dX1_dampnessOf_1 ?_
  refine j_put (pc := 2) C (ref := "GrainSiloModel") (T := TX1) (N := 16) (ws' := wN h c1 0 L K Dm S lo hi su db dy li so sp X ke se) hin tyX1 tyX1_ok nmX1 0 rfl rfl 0 (by decide) (C.w 1 rfl) rfl rfl (by decide +kernel) (Nat.le_of_ble_eq_true rfl) rfl dX1_dampnessOf_2 ?_
  refine j_aload_n (pc := 5) C dX1_dampnessOf_5 0 rfl ?_
  refine j_iload_n (pc := 6) C dX1_dampnessOf_6 1 rfl ?_
  refine j_callI (pc := 7) C (As := [.int (zI a)]) (rest := []) (kX1_isLayer l D h c1 c2 c3 0 L K Dm S lo hi su db dy li so sp X ke se a (by omega) (by omega) ⟨by omega, by omega⟩) (cwV 1 C.2.2.2.2.1 gX1_dampnessOf_X1_isLayer rfl rfl rfl (by decide +kernel) ⟨Nat.le_of_ble_eq_true rfl, Nat.le_of_ble_eq_true rfl⟩) 0 (ci := 1) rfl rfl rfl dX1_dampnessOf_7 rfl rfl (Nat.le_of_ble_eq_true rfl) (by decide) ?_
  refine j_if_eq (pc := 10) C 22 dX1_dampnessOf_10 (by decide) ⟨by omega, by omega⟩ (fun c_10 => ?_) (fun c_10 => absurd c_10 (by omega))
  refine j_aload_n (pc := 22) C dX1_dampnessOf_22 0 rfl ?_
  refine j_iconst (pc := 23) C dX1_dampnessOf_23 ?_
  refine j_callI (pc := 24) C (As := [.int (zI 1)]) (rest := []) (kX1_no l D h c1 c2 c3 0 L K Dm S lo hi su db dy li so sp X ke se 1 ) (cwV 1 C.2.2.2.2.1 gX1_dampnessOf_X1_no rfl rfl rfl (by decide +kernel) ⟨Nat.le_of_ble_eq_true rfl, Nat.le_of_ble_eq_true rfl⟩) 0 (ci := 1) rfl rfl rfl dX1_dampnessOf_24 rfl rfl (Nat.le_of_ble_eq_true rfl) (by decide) ?_
  exact j_iret (pc := 27) C hr dX1_dampnessOf_27 (by rfl) (by rfl) (by decide) (by decide)
set_option maxHeartbeats 4000000 in
set_option maxRecDepth 100000 in
theorem kX1_dampLayers (l : Launch) (D : va_G) (h : Nat → Nat) (c1 c2 c3 : ClassId) (th L : Int) (K Dm : Int → Int) (S : Int) (lo hi su db : Int → Int) (dy li so sp : Int) (X : Int → Int → Int) (ke se : Int → Int) (hL0 : 0 ≤ L) (hL : L ≤ 12) (hl0 : 0 ≤ li) (hl1 : li ≤ 40) (hf : ∀ j, 0 ≤ j → j < L → 0 ≤ Dm j ∧ Dm j ≤ 40) : cI l yX1_dampLayers wsX1_dampLayers ({ frames := 0, cells := 0, slots := 0, locals := 0 }) D (tyS c1 c2 c3) [.ref (h 0)] (wN h c1 th L K Dm S lo hi su db dy li so sp X ke se) (wN h c1 0 L K Dm S lo hi su db dy li so sp X ke se) (zI (zc (fun j => decide (li < Dm j)) 0 L)) 0 0 := by
  refine cI.of (cc := cX1_dampLayers) (maxL := 3) (ret := .int) (by decide) rfl (lv := [(0, .ref (h 0))]) [0] rfl (Nat.le_of_ble_eq_true rfl) ?_
  intro p e s m args below meth c A C hr
  have C : GC p s m args meth c cX1_dampLayers 3 RX1 wsX1_dampLayers D (tyS c1 c2 c3) A := C
  have hin : ∀ w ∈ wsX10, w ∈ wsX1_dampLayers := fun _ h => List.mem_cons_of_mem _ (List.mem_append_right _ h)
  refine j_aload_n (pc := 0) C dX1_dampLayers_0 0 rfl ?_
  refine j_iconst (pc := 1) C dX1_dampLayers_1 ?_
  refine j_put (pc := 2) C (ref := "GrainSiloModel") (T := TX1) (N := 16) (ws' := wN h c1 0 L K Dm S lo hi su db dy li so sp X ke se) hin tyX1 tyX1_ok nmX1 0 rfl rfl 0 (by decide) (C.w 1 rfl) rfl rfl (by decide +kernel) (Nat.le_of_ble_eq_true rfl) rfl dX1_dampLayers_2 ?_
  refine j_iconst (pc := 5) C dX1_dampLayers_5 ?_
  refine j_istore_n (pc := 6) C (lv' := [(0, .ref (h 0)), (1, .int (zI 0))]) dX1_dampLayers_6 (by decide) [1, 0] rfl ?_
  refine j_iconst (pc := 7) C dX1_dampLayers_7 ?_
  refine j_istore_n (pc := 8) C (lv' := [(0, .ref (h 0)), (1, .int (zI 0)), (2, .int (zI 0))]) dX1_dampLayers_8 (by decide) [1, 2, 0] rfl ?_
  refine J.cast (ws' := wN h c1 0 L K Dm S lo hi su db dy li so sp X ke se) (lv' := [(0, .ref (h 0)), (1, .int (zI (zc (fun j => decide (li < Dm j)) 0 0))), (2, .int (zI 0))]) ?_ (by rfl) (by rw [zc_0]) rfl
  refine j_up (fun i : Int => wN h c1 0 L K Dm S lo hi su db dy li so sp X ke se) (fun i : Int => [(0, .ref (h 0)), (1, .int (zI (zc (fun j => decide (li < Dm j)) 0 i))), (2, .int (zI i))]) (fun i : Int => True) 0 L (by omega) trivial ?_ ?_
  · intro i h0_9 h1_9 hI_9 hk_9
    try dsimp only at hI_9 hk_9 ⊢
    have q := hf i (by omega) (by omega)
    refine j_iload_n (pc := 9) C dX1_dampLayers_9 2 rfl ?_
    refine j_aload_n (pc := 10) C dX1_dampLayers_10 0 rfl ?_
    refine j_get (pc := 11) C (ref := "GrainSiloModel") (T := TX1) (N := 16) hin 0 rfl rfl 1 (by decide) (C.w 2 rfl) rfl rfl dX1_dampLayers_11 ?_
    refine j_icmp_ge (pc := 14) C 44 dX1_dampLayers_14 (by decide) ⟨by omega, by omega⟩ ⟨by omega, by omega⟩ (fun c_14 => absurd c_14 (by omega)) (fun c_14 => ?_)
    refine j_iload_n (pc := 17) C dX1_dampLayers_17 1 rfl ?_
    refine j_aload_n (pc := 18) C dX1_dampLayers_18 0 rfl ?_
    refine j_get (pc := 19) C (ref := "GrainSiloModel") (T := TX1) (N := 16) hin 0 rfl rfl 3 (by decide) (C.w 3 rfl) rfl rfl dX1_dampLayers_19 ?_
    refine j_iload_n (pc := 22) C dX1_dampLayers_22 2 rfl ?_
    refine j_iald (pc := 23) C 2 0 rfl rfl (by omega) (by omega) (by decide) dX1_dampLayers_23 ?_
    refine j_aload_n (pc := 24) C dX1_dampLayers_24 0 rfl ?_
    refine j_get (pc := 25) C (ref := "GrainSiloModel") (T := TX1) (N := 16) hin 0 rfl rfl 10 (by decide) (C.w 4 rfl) rfl rfl dX1_dampLayers_25 ?_
    refine j_icmp_le (pc := 28) C 35 dX1_dampLayers_28 (by decide) ⟨by omega, by omega⟩ ⟨by omega, by omega⟩ (fun c_28 => ?_) (fun c_28 => ?_)
    · skip
      have e2 : ¬ li < Dm i := by omega
      refine j_iconst (pc := 35) C dX1_dampLayers_35 ?_
      refine j_iadd (pc := 36) C dX1_dampLayers_36 ?_
      refine j_istore_n (pc := 37) C (lv' := [(0, .ref (h 0)), (1, .int (zI ((zc (fun j => decide (li < Dm j)) 0 i) + 0))), (2, .int (zI i))]) dX1_dampLayers_37 (by decide) [1, 0, 2] rfl ?_
      refine j_iinc (pc := 38) C (lv' := [(0, .ref (h 0)), (1, .int (zI ((zc (fun j => decide (li < Dm j)) 0 i) + 0))), (2, .int (zI (i + 1)))]) dX1_dampLayers_38 2 rfl (by decide) [1, 2, 0] rfl ?_
      refine j_goto (pc := 41) C 9 dX1_dampLayers_41 (by decide) ?_
      exact J.cast (hk_9 trivial) (by rfl) (by first | rw [zc_f (fun j => decide (li < Dm j)) 0 i h0_9 (decide_eq_false e2), Int.add_zero] | rw [zc_t (fun j => decide (li < Dm j)) 0 i h0_9 (decide_eq_true e2)]) rfl
    · skip
      have e2 : li < Dm i := by omega
      refine j_iconst (pc := 31) C dX1_dampLayers_31 ?_
      refine j_goto (pc := 32) C 36 dX1_dampLayers_32 (by decide) ?_
      refine j_iadd (pc := 36) C dX1_dampLayers_36 ?_
      refine j_istore_n (pc := 37) C (lv' := [(0, .ref (h 0)), (1, .int (zI ((zc (fun j => decide (li < Dm j)) 0 i) + 1))), (2, .int (zI i))]) dX1_dampLayers_37 (by decide) [1, 0, 2] rfl ?_
      refine j_iinc (pc := 38) C (lv' := [(0, .ref (h 0)), (1, .int (zI ((zc (fun j => decide (li < Dm j)) 0 i) + 1))), (2, .int (zI (i + 1)))]) dX1_dampLayers_38 2 rfl (by decide) [1, 2, 0] rfl ?_
      refine j_goto (pc := 41) C 9 dX1_dampLayers_41 (by decide) ?_
      exact J.cast (hk_9 trivial) (by rfl) (by first | rw [zc_f (fun j => decide (li < Dm j)) 0 i h0_9 (decide_eq_false e2), Int.add_zero] | rw [zc_t (fun j => decide (li < Dm j)) 0 i h0_9 (decide_eq_true e2)]) rfl
  · intro hI_9
    try dsimp only at hI_9 ⊢
    refine j_iload_n (pc := 9) C dX1_dampLayers_9 2 rfl ?_
    refine j_aload_n (pc := 10) C dX1_dampLayers_10 0 rfl ?_
    refine j_get (pc := 11) C (ref := "GrainSiloModel") (T := TX1) (N := 16) hin 0 rfl rfl 1 (by decide) (C.w 2 rfl) rfl rfl dX1_dampLayers_11 ?_
    refine j_icmp_ge (pc := 14) C 44 dX1_dampLayers_14 (by decide) ⟨by omega, by omega⟩ ⟨by omega, by omega⟩ (fun c_14 => ?_) (fun c_14 => absurd c_14 (by omega))
    refine j_iload_n (pc := 44) C dX1_dampLayers_44 1 rfl ?_
    exact j_iret (pc := 45) C hr dX1_dampLayers_45 (by rfl) (by rfl) (by decide) (by decide)
set_option maxHeartbeats 4000000 in
set_option maxRecDepth 100000 in
theorem kX1_layersAheadOf (l : Launch) (D : va_G) (h : Nat → Nat) (c1 c2 c3 : ClassId) (th L : Int) (K Dm : Int → Int) (S : Int) (lo hi su db : Int → Int) (dy li so sp : Int) (X : Int → Int → Int) (ke se : Int → Int) (a : Int) (h0 : 0 ≤ a) (h1 : a ≤ 4) (hL0 : 0 ≤ L) (hL : L ≤ 12) (hk : ∀ j, 0 ≤ j → j < L → 0 ≤ K j ∧ K j ≤ 4) : cI l yX1_layersAheadOf wsX1_layersAheadOf ({ frames := 1, cells := 0, slots := 0, locals := 22 }) D (tyS c1 c2 c3) [.ref (h 0), .int (zI a)] (wN h c1 th L K Dm S lo hi su db dy li so sp X ke se) (wN h c1 0 L K Dm S lo hi su db dy li so sp X ke se) (zI (fidx (fun j => decide (K j = a)) L)) 0 0 := by
  refine cI.of (cc := cX1_layersAheadOf) (maxL := 3) (ret := .int) (by decide) rfl (lv := [(0, .ref (h 0)), (1, .int (zI a))]) [0, 1] rfl (Nat.le_of_ble_eq_true rfl) ?_
  intro p e s m args below meth c A C hr
  have C : GC p s m args meth c cX1_layersAheadOf 3 RX1 wsX1_layersAheadOf D (tyS c1 c2 c3) A := C
  have hin : ∀ w ∈ wsX10, w ∈ wsX1_layersAheadOf := fun _ h => List.mem_cons_of_mem _ (List.mem_append_right _ h)
  refine j_aload_n (pc := 0) C dX1_layersAheadOf_0 0 rfl ?_
  refine j_iconst (pc := 1) C dX1_layersAheadOf_1 ?_
  refine j_put (pc := 2) C (ref := "GrainSiloModel") (T := TX1) (N := 16) (ws' := wN h c1 0 L K Dm S lo hi su db dy li so sp X ke se) hin tyX1 tyX1_ok nmX1 0 rfl rfl 0 (by decide) (C.w 1 rfl) rfl rfl (by decide +kernel) (Nat.le_of_ble_eq_true rfl) rfl dX1_layersAheadOf_2 ?_
  refine j_iload_n (pc := 5) C dX1_layersAheadOf_5 1 rfl ?_
  refine j_iconst (pc := 6) C dX1_layersAheadOf_6 ?_
  refine j_iconst (pc := 7) C dX1_layersAheadOf_7 ?_
  refine j_callSI (pc := 8) C (As := [.int (zI a), .int (zI 0), .int (zI 4)]) (rest := []) (kX1_isIn l D c1 c2 c3 a 0 4 ⟨by omega, by omega⟩ ⟨by omega, by omega⟩ ⟨by omega, by omega⟩) (va_cwS 3 C.2.2.2.2.1 gX1_layersAheadOf_X1_isIn rfl rfl rfl (by decide +kernel) ⟨Nat.le_of_ble_eq_true rfl, Nat.le_of_ble_eq_true rfl⟩) dX1_layersAheadOf_8 rfl rfl (Nat.le_of_ble_eq_true rfl) (by decide) ?_
  refine j_if_ne (pc := 11) C 20 dX1_layersAheadOf_11 (by decide) ⟨by omega, by omega⟩ (fun c_11 => ?_) (fun c_11 => absurd c_11 (by omega))
  refine j_iconst (pc := 20) C dX1_layersAheadOf_20 ?_
  refine j_istore_n (pc := 21) C (lv' := [(0, .ref (h 0)), (1, .int (zI a)), (2, .int (zI 0))]) dX1_layersAheadOf_21 (by decide) [1, 2, 0] rfl ?_
  refine J.cast (ws' := wN h c1 0 L K Dm S lo hi su db dy li so sp X ke se) (lv' := [(0, .ref (h 0)), (1, .int (zI a)), (2, .int (zI 0))]) ?_ (by rfl) (by rfl) rfl
  refine j_up (fun i : Int => wN h c1 0 L K Dm S lo hi su db dy li so sp X ke se) (fun i : Int => [(0, .ref (h 0)), (1, .int (zI a)), (2, .int (zI i))]) (fun i : Int => ∀ j, 0 ≤ j → j < i → ¬ K j = a) 0 L (by omega) (fun j j0 j1 => absurd j1 (by omega)) ?_ ?_
  · intro i h0_22 h1_22 hI_22 hk_22
    try dsimp only at hI_22 hk_22 ⊢
    have q := hk i h0_22 h1_22
    refine j_iload_n (pc := 22) C dX1_layersAheadOf_22 2 rfl ?_
    refine j_aload_n (pc := 23) C dX1_layersAheadOf_23 0 rfl ?_
    refine j_get (pc := 24) C (ref := "GrainSiloModel") (T := TX1) (N := 16) hin 0 rfl rfl 1 (by decide) (C.w 2 rfl) rfl rfl dX1_layersAheadOf_24 ?_
    refine j_icmp_ge (pc := 27) C 48 dX1_layersAheadOf_27 (by decide) ⟨by omega, by omega⟩ ⟨by omega, by omega⟩ (fun c_27 => absurd c_27 (by omega)) (fun c_27 => ?_)
    refine j_aload_n (pc := 30) C dX1_layersAheadOf_30 0 rfl ?_
    refine j_get (pc := 31) C (ref := "GrainSiloModel") (T := TX1) (N := 16) hin 0 rfl rfl 2 (by decide) (C.w 3 rfl) rfl rfl dX1_layersAheadOf_31 ?_
    refine j_iload_n (pc := 34) C dX1_layersAheadOf_34 2 rfl ?_
    refine j_iald (pc := 35) C 1 0 rfl rfl (by omega) (by omega) (by decide) dX1_layersAheadOf_35 ?_
    refine j_iload_n (pc := 36) C dX1_layersAheadOf_36 1 rfl ?_
    refine j_icmp_ne (pc := 37) C 42 dX1_layersAheadOf_37 (by decide) ⟨by omega, by omega⟩ ⟨by omega, by omega⟩ (fun c_37 => ?_) (fun c_37 => ?_)
    · skip
      refine j_iinc (pc := 42) C (lv' := [(0, .ref (h 0)), (1, .int (zI a)), (2, .int (zI (i + 1)))]) dX1_layersAheadOf_42 2 rfl (by decide) [1, 2, 0] rfl ?_
      refine j_goto (pc := 45) C 22 dX1_layersAheadOf_45 (by decide) ?_
      exact J.cast (hk_22 (fun j j0 j1 => by rcases Int.lt_or_eq_of_le (show j ≤ i by omega) with q | q; exact hI_22 j j0 q; subst q; exact c_37)) (by rfl) (by rfl) rfl
    · skip
      refine j_iload_n (pc := 40) C dX1_layersAheadOf_40 2 rfl ?_
      exact j_iret (pc := 41) C hr dX1_layersAheadOf_41 (by rw [fidx_is h0_22 h1_22 (decide_eq_true c_37) (fun j j0 j1 => decide_eq_false (hI_22 j j0 j1))]) (by rfl) (by decide) (by decide)
  · intro hI_22
    try dsimp only at hI_22 ⊢
    refine j_iload_n (pc := 22) C dX1_layersAheadOf_22 2 rfl ?_
    refine j_aload_n (pc := 23) C dX1_layersAheadOf_23 0 rfl ?_
    refine j_get (pc := 24) C (ref := "GrainSiloModel") (T := TX1) (N := 16) hin 0 rfl rfl 1 (by decide) (C.w 2 rfl) rfl rfl dX1_layersAheadOf_24 ?_
    refine j_icmp_ge (pc := 27) C 48 dX1_layersAheadOf_27 (by decide) ⟨by omega, by omega⟩ ⟨by omega, by omega⟩ (fun c_27 => ?_) (fun c_27 => absurd c_27 (by omega))
    refine j_iconst (pc := 48) C dX1_layersAheadOf_48 ?_
    exact j_iret (pc := 49) C hr dX1_layersAheadOf_49 (by rw [fidx_no hL0 (fun j j0 j1 => decide_eq_false (hI_22 j j0 j1))]) (by rfl) (by decide) (by decide)
set_option maxHeartbeats 4000000 in
set_option maxRecDepth 100000 in
theorem kX1_layersAheadOf_no1 (l : Launch) (D : va_G) (h : Nat → Nat) (c1 c2 c3 : ClassId) (th L : Int) (K Dm : Int → Int) (S : Int) (lo hi su db : Int → Int) (dy li so sp : Int) (X : Int → Int → Int) (ke se : Int → Int) (a : Int) (ha : zR a) (hn : ¬ (0 ≤ a ∧ a ≤ 4)) : cI l yX1_layersAheadOf wsX1_layersAheadOf ({ frames := 1, cells := 0, slots := 0, locals := 22 }) D (tyS c1 c2 c3) [.ref (h 0), .int (zI a)] (wN h c1 th L K Dm S lo hi su db dy li so sp X ke se) (wN h c1 1 L K Dm S lo hi su db dy li so sp X ke se) (zI 0) 0 0 := by
  refine cI.of (cc := cX1_layersAheadOf) (maxL := 3) (ret := .int) (by decide) rfl (lv := [(0, .ref (h 0)), (1, .int (zI a))]) [0, 1] rfl (Nat.le_of_ble_eq_true rfl) ?_
  intro p e s m args below meth c A C hr
  have C : GC p s m args meth c cX1_layersAheadOf 3 RX1 wsX1_layersAheadOf D (tyS c1 c2 c3) A := C
  have hin : ∀ w ∈ wsX10, w ∈ wsX1_layersAheadOf := fun _ h => List.mem_cons_of_mem _ (List.mem_append_right _ h)
  obtain ⟨ha1, ha2⟩ := ha
  refine j_aload_n (pc := 0) C dX1_layersAheadOf_0 0 rfl ?_
  refine j_iconst (pc := 1) C dX1_layersAheadOf_1 ?_
  refine j_put (pc := 2) C (ref := "GrainSiloModel") (T := TX1) (N := 16) (ws' := wN h c1 0 L K Dm S lo hi su db dy li so sp X ke se) hin tyX1 tyX1_ok nmX1 0 rfl rfl 0 (by decide) (C.w 1 rfl) rfl rfl (by decide +kernel) (Nat.le_of_ble_eq_true rfl) rfl dX1_layersAheadOf_2 ?_
  refine j_iload_n (pc := 5) C dX1_layersAheadOf_5 1 rfl ?_
  refine j_iconst (pc := 6) C dX1_layersAheadOf_6 ?_
  refine j_iconst (pc := 7) C dX1_layersAheadOf_7 ?_
  refine j_callSI (pc := 8) C (As := [.int (zI a), .int (zI 0), .int (zI 4)]) (rest := []) (kX1_isIn l D c1 c2 c3 a 0 4 ⟨by omega, by omega⟩ ⟨by omega, by omega⟩ ⟨by omega, by omega⟩) (va_cwS 3 C.2.2.2.2.1 gX1_layersAheadOf_X1_isIn rfl rfl rfl (by decide +kernel) ⟨Nat.le_of_ble_eq_true rfl, Nat.le_of_ble_eq_true rfl⟩) dX1_layersAheadOf_8 rfl rfl (Nat.le_of_ble_eq_true rfl) (by decide) ?_
  refine j_if_ne (pc := 11) C 20 dX1_layersAheadOf_11 (by decide) ⟨by omega, by omega⟩ (fun c_11 => absurd c_11 (by omega)) (fun c_11 => ?_)
  refine j_aload_n (pc := 14) C dX1_layersAheadOf_14 0 rfl ?_
  refine j_iconst (pc := 15) C dX1_layersAheadOf_15 ?_
  refine j_callI (pc := 16) C (As := [.int (zI 1)]) (rest := []) (kX1_no l D h c1 c2 c3 0 L K Dm S lo hi su db dy li so sp X ke se 1 ) (cwV 1 C.2.2.2.2.1 gX1_layersAheadOf_X1_no rfl rfl rfl (by decide +kernel) ⟨Nat.le_of_ble_eq_true rfl, Nat.le_of_ble_eq_true rfl⟩) 0 (ci := 1) rfl rfl rfl dX1_layersAheadOf_16 rfl rfl (Nat.le_of_ble_eq_true rfl) (by decide) ?_
  exact j_iret (pc := 19) C hr dX1_layersAheadOf_19 (by rfl) (by rfl) (by decide) (by decide)
set_option maxHeartbeats 4000000 in
set_option maxRecDepth 100000 in
theorem kX1_leastSum (l : Launch) (D : va_G) (h : Nat → Nat) (c1 c2 c3 : ClassId) (th L : Int) (K Dm : Int → Int) (S : Int) (lo hi su db : Int → Int) (dy li so sp : Int) (X : Int → Int → Int) (ke se : Int → Int) (a b : Int) (hok : okS Dm L lo hi su db S) (h0 : 0 ≤ a) (h1 : a ≤ b) (h2 : b < L) : cI l yX1_leastSum wsX1_leastSum ({ frames := 5, cells := 0, slots := 0, locals := 110 }) D (tyS c1 c2 c3) [.ref (h 0), .int (zI a), .int (zI b)] (wN h c1 th L K Dm S lo hi su db dy li so sp X ke se) (wN h c1 0 L K Dm S lo hi su db dy li so sp (fw (bgn X L lo hi su db S) L (L + 1)) ke se) (zI (-((fw (bgn X L lo hi su db S) L (L + 1)) (b + 1) a))) 0 0 := by
  refine cI.of (cc := cX1_leastSum) (maxL := 3) (ret := .int) (by decide) rfl (lv := [(0, .ref (h 0)), (1, .int (zI a)), (2, .int (zI b))]) [0, 1, 2] rfl (Nat.le_of_ble_eq_true rfl) ?_
  intro p e s m args below meth c A C hr
  have C : GC p s m args meth c cX1_leastSum 3 RX1 wsX1_leastSum D (tyS c1 c2 c3) A := C
  have hin : ∀ w ∈ wsX10, w ∈ wsX1_leastSum := fun _ h => List.mem_cons_of_mem _ (List.mem_append_right _ h)
  obtain ⟨⟨hL0, hL⟩, ⟨hS0, hS⟩, hf, hs⟩ := id hok
  have w := Fok_fw (Fok_bgn hok X) (L + 1) (by omega) (Int.le_refl _)
  have hB := Fok_B hL hf w
  refine j_aload_n (pc := 0) C dX1_leastSum_0 0 rfl ?_
  refine j_iconst (pc := 1) C dX1_leastSum_1 ?_
  refine j_put (pc := 2) C (ref := "GrainSiloModel") (T := TX1) (N := 16) (ws' := wN h c1 0 L K Dm S lo hi su db dy li so sp X ke se) hin tyX1 tyX1_ok nmX1 0 rfl rfl 0 (by decide) (C.w 1 rfl) rfl rfl (by decide +kernel) (Nat.le_of_ble_eq_true rfl) rfl dX1_leastSum_2 ?_
  refine j_aload_n (pc := 5) C dX1_leastSum_5 0 rfl ?_
  refine j_iload_n (pc := 6) C dX1_leastSum_6 1 rfl ?_
  refine j_iload_n (pc := 7) C dX1_leastSum_7 2 rfl ?_
  refine j_callI (pc := 8) C (As := [.int (zI a), .int (zI b)]) (rest := []) (kX1_areLayers l D h c1 c2 c3 0 L K Dm S lo hi su db dy li so sp X ke se a b (by omega) (by omega) ⟨by omega, by omega⟩ ⟨by omega, by omega⟩) (cwV 2 C.2.2.2.2.1 gX1_leastSum_X1_areLayers rfl rfl rfl (by decide +kernel) ⟨Nat.le_of_ble_eq_true rfl, Nat.le_of_ble_eq_true rfl⟩) 0 (ci := 1) rfl rfl rfl dX1_leastSum_8 rfl rfl (Nat.le_of_ble_eq_true rfl) (by decide) ?_
  refine j_if_ne (pc := 11) C 20 dX1_leastSum_11 (by decide) ⟨by omega, by omega⟩ (fun c_11 => ?_) (fun c_11 => absurd c_11 (by omega))
  refine j_aload_n (pc := 20) C dX1_leastSum_20 0 rfl ?_
  refine j_callV (pc := 21) C (As := []) (rest := []) (kX1_reckon l D h c1 c2 c3 0 L K Dm S lo hi su db dy li so sp X ke se  hok) (cwV 0 C.2.2.2.2.1 gX1_leastSum_X1_reckon rfl rfl rfl (by decide +kernel) ⟨Nat.le_of_ble_eq_true rfl, Nat.le_of_ble_eq_true rfl⟩) 0 (ci := 1) rfl rfl rfl dX1_leastSum_21 rfl rfl (Nat.le_of_ble_eq_true rfl) (by decide) ?_
  refine j_aload_n (pc := 24) C dX1_leastSum_24 0 rfl ?_
  refine j_iload_n (pc := 25) C dX1_leastSum_25 1 rfl ?_
  refine j_iload_n (pc := 26) C dX1_leastSum_26 2 rfl ?_
  refine j_callI (pc := 27) C (As := [.int (zI a), .int (zI b)]) (rest := []) (kX1_least l D h c1 c2 c3 0 L K Dm S lo hi su db dy li so sp (fw (bgn X L lo hi su db S) L (L + 1)) ke se a b (by omega) (by omega) (by omega) (by omega)) (cwV 2 C.2.2.2.2.1 gX1_leastSum_X1_least rfl rfl rfl (by decide +kernel) ⟨Nat.le_of_ble_eq_true rfl, Nat.le_of_ble_eq_true rfl⟩) 0 (ci := 1) rfl rfl rfl dX1_leastSum_27 rfl rfl (Nat.le_of_ble_eq_true rfl) (by decide) ?_
  exact j_iret (pc := 30) C hr dX1_leastSum_30 (by rfl) (by rfl) (by decide) (by decide)
set_option maxHeartbeats 4000000 in
set_option maxRecDepth 100000 in
theorem kX1_leastSum_no1 (l : Launch) (D : va_G) (h : Nat → Nat) (c1 c2 c3 : ClassId) (th L : Int) (K Dm : Int → Int) (S : Int) (lo hi su db : Int → Int) (dy li so sp : Int) (X : Int → Int → Int) (ke se : Int → Int) (a b : Int) (hL0 : 0 ≤ L) (hL : L ≤ 12) (ha : zR a) (hb : zR b) (hn : ¬ (0 ≤ a ∧ a ≤ b ∧ b < L)) : cI l yX1_leastSum wsX1_leastSum ({ frames := 3, cells := 0, slots := 0, locals := 65 }) D (tyS c1 c2 c3) [.ref (h 0), .int (zI a), .int (zI b)] (wN h c1 th L K Dm S lo hi su db dy li so sp X ke se) (wN h c1 1 L K Dm S lo hi su db dy li so sp X ke se) (zI 0) 0 0 := by
  refine cI.of (cc := cX1_leastSum) (maxL := 3) (ret := .int) (by decide) rfl (lv := [(0, .ref (h 0)), (1, .int (zI a)), (2, .int (zI b))]) [0, 1, 2] rfl (Nat.le_of_ble_eq_true rfl) ?_
  intro p e s m args below meth c A C hr
  have C : GC p s m args meth c cX1_leastSum 3 RX1 wsX1_leastSum D (tyS c1 c2 c3) A := C
  have hin : ∀ w ∈ wsX10, w ∈ wsX1_leastSum := fun _ h => List.mem_cons_of_mem _ (List.mem_append_right _ h)
  obtain ⟨ha1, ha2⟩ := ha
  obtain ⟨hb1, hb2⟩ := hb
  refine j_aload_n (pc := 0) C dX1_leastSum_0 0 rfl ?_
  refine j_iconst (pc := 1) C dX1_leastSum_1 ?_
  refine j_put (pc := 2) C (ref := "GrainSiloModel") (T := TX1) (N := 16) (ws' := wN h c1 0 L K Dm S lo hi su db dy li so sp X ke se) hin tyX1 tyX1_ok nmX1 0 rfl rfl 0 (by decide) (C.w 1 rfl) rfl rfl (by decide +kernel) (Nat.le_of_ble_eq_true rfl) rfl dX1_leastSum_2 ?_
  refine j_aload_n (pc := 5) C dX1_leastSum_5 0 rfl ?_
  refine j_iload_n (pc := 6) C dX1_leastSum_6 1 rfl ?_
  refine j_iload_n (pc := 7) C dX1_leastSum_7 2 rfl ?_
  refine j_callI (pc := 8) C (As := [.int (zI a), .int (zI b)]) (rest := []) (kX1_areLayers l D h c1 c2 c3 0 L K Dm S lo hi su db dy li so sp X ke se a b (by omega) (by omega) ⟨by omega, by omega⟩ ⟨by omega, by omega⟩) (cwV 2 C.2.2.2.2.1 gX1_leastSum_X1_areLayers rfl rfl rfl (by decide +kernel) ⟨Nat.le_of_ble_eq_true rfl, Nat.le_of_ble_eq_true rfl⟩) 0 (ci := 1) rfl rfl rfl dX1_leastSum_8 rfl rfl (Nat.le_of_ble_eq_true rfl) (by decide) ?_
  refine j_if_ne (pc := 11) C 20 dX1_leastSum_11 (by decide) ⟨by omega, by omega⟩ (fun c_11 => absurd c_11 (by omega)) (fun c_11 => ?_)
  refine j_aload_n (pc := 14) C dX1_leastSum_14 0 rfl ?_
  refine j_iconst (pc := 15) C dX1_leastSum_15 ?_
  refine j_callI (pc := 16) C (As := [.int (zI 1)]) (rest := []) (kX1_no l D h c1 c2 c3 0 L K Dm S lo hi su db dy li so sp X ke se 1 ) (cwV 1 C.2.2.2.2.1 gX1_leastSum_X1_no rfl rfl rfl (by decide +kernel) ⟨Nat.le_of_ble_eq_true rfl, Nat.le_of_ble_eq_true rfl⟩) 0 (ci := 1) rfl rfl rfl dX1_leastSum_16 rfl rfl (Nat.le_of_ble_eq_true rfl) (by decide) ?_
  exact j_iret (pc := 19) C hr dX1_leastSum_19 (by rfl) (by rfl) (by decide) (by decide)
set_option maxHeartbeats 4000000 in
set_option maxRecDepth 100000 in
theorem kX1_greatestSum (l : Launch) (D : va_G) (h : Nat → Nat) (c1 c2 c3 : ClassId) (th L : Int) (K Dm : Int → Int) (S : Int) (lo hi su db : Int → Int) (dy li so sp : Int) (X : Int → Int → Int) (ke se : Int → Int) (a b : Int) (hok : okS Dm L lo hi su db S) (h0 : 0 ≤ a) (h1 : a ≤ b) (h2 : b < L) : cI l yX1_greatestSum wsX1_greatestSum ({ frames := 5, cells := 0, slots := 0, locals := 110 }) D (tyS c1 c2 c3) [.ref (h 0), .int (zI a), .int (zI b)] (wN h c1 th L K Dm S lo hi su db dy li so sp X ke se) (wN h c1 0 L K Dm S lo hi su db dy li so sp (fw (bgn X L lo hi su db S) L (L + 1)) ke se) (zI ((fw (bgn X L lo hi su db S) L (L + 1)) a (b + 1))) 0 0 := by
  refine cI.of (cc := cX1_greatestSum) (maxL := 3) (ret := .int) (by decide) rfl (lv := [(0, .ref (h 0)), (1, .int (zI a)), (2, .int (zI b))]) [0, 1, 2] rfl (Nat.le_of_ble_eq_true rfl) ?_
  intro p e s m args below meth c A C hr
  have C : GC p s m args meth c cX1_greatestSum 3 RX1 wsX1_greatestSum D (tyS c1 c2 c3) A := C
  have hin : ∀ w ∈ wsX10, w ∈ wsX1_greatestSum := fun _ h => List.mem_cons_of_mem _ (List.mem_append_right _ h)
  obtain ⟨⟨hL0, hL⟩, ⟨hS0, hS⟩, hf, hs⟩ := id hok
  have w := Fok_fw (Fok_bgn hok X) (L + 1) (by omega) (Int.le_refl _)
  have hB := Fok_B hL hf w
  refine j_aload_n (pc := 0) C dX1_greatestSum_0 0 rfl ?_
  refine j_iconst (pc := 1) C dX1_greatestSum_1 ?_
  refine j_put (pc := 2) C (ref := "GrainSiloModel") (T := TX1) (N := 16) (ws' := wN h c1 0 L K Dm S lo hi su db dy li so sp X ke se) hin tyX1 tyX1_ok nmX1 0 rfl rfl 0 (by decide) (C.w 1 rfl) rfl rfl (by decide +kernel) (Nat.le_of_ble_eq_true rfl) rfl dX1_greatestSum_2 ?_
  refine j_aload_n (pc := 5) C dX1_greatestSum_5 0 rfl ?_
  refine j_iload_n (pc := 6) C dX1_greatestSum_6 1 rfl ?_
  refine j_iload_n (pc := 7) C dX1_greatestSum_7 2 rfl ?_
  refine j_callI (pc := 8) C (As := [.int (zI a), .int (zI b)]) (rest := []) (kX1_areLayers l D h c1 c2 c3 0 L K Dm S lo hi su db dy li so sp X ke se a b (by omega) (by omega) ⟨by omega, by omega⟩ ⟨by omega, by omega⟩) (cwV 2 C.2.2.2.2.1 gX1_greatestSum_X1_areLayers rfl rfl rfl (by decide +kernel) ⟨Nat.le_of_ble_eq_true rfl, Nat.le_of_ble_eq_true rfl⟩) 0 (ci := 1) rfl rfl rfl dX1_greatestSum_8 rfl rfl (Nat.le_of_ble_eq_true rfl) (by decide) ?_
  refine j_if_ne (pc := 11) C 20 dX1_greatestSum_11 (by decide) ⟨by omega, by omega⟩ (fun c_11 => ?_) (fun c_11 => absurd c_11 (by omega))
  refine j_aload_n (pc := 20) C dX1_greatestSum_20 0 rfl ?_
  refine j_callV (pc := 21) C (As := []) (rest := []) (kX1_reckon l D h c1 c2 c3 0 L K Dm S lo hi su db dy li so sp X ke se  hok) (cwV 0 C.2.2.2.2.1 gX1_greatestSum_X1_reckon rfl rfl rfl (by decide +kernel) ⟨Nat.le_of_ble_eq_true rfl, Nat.le_of_ble_eq_true rfl⟩) 0 (ci := 1) rfl rfl rfl dX1_greatestSum_21 rfl rfl (Nat.le_of_ble_eq_true rfl) (by decide) ?_
  refine j_aload_n (pc := 24) C dX1_greatestSum_24 0 rfl ?_
  refine j_iload_n (pc := 25) C dX1_greatestSum_25 1 rfl ?_
  refine j_iload_n (pc := 26) C dX1_greatestSum_26 2 rfl ?_
  refine j_callI (pc := 27) C (As := [.int (zI a), .int (zI b)]) (rest := []) (kX1_greatest l D h c1 c2 c3 0 L K Dm S lo hi su db dy li so sp (fw (bgn X L lo hi su db S) L (L + 1)) ke se a b (by omega) (by omega) (by omega) (by omega)) (cwV 2 C.2.2.2.2.1 gX1_greatestSum_X1_greatest rfl rfl rfl (by decide +kernel) ⟨Nat.le_of_ble_eq_true rfl, Nat.le_of_ble_eq_true rfl⟩) 0 (ci := 1) rfl rfl rfl dX1_greatestSum_27 rfl rfl (Nat.le_of_ble_eq_true rfl) (by decide) ?_
  exact j_iret (pc := 30) C hr dX1_greatestSum_30 (by rfl) (by rfl) (by decide) (by decide)
set_option maxHeartbeats 4000000 in
set_option maxRecDepth 100000 in
theorem kX1_greatestSum_no1 (l : Launch) (D : va_G) (h : Nat → Nat) (c1 c2 c3 : ClassId) (th L : Int) (K Dm : Int → Int) (S : Int) (lo hi su db : Int → Int) (dy li so sp : Int) (X : Int → Int → Int) (ke se : Int → Int) (a b : Int) (hL0 : 0 ≤ L) (hL : L ≤ 12) (ha : zR a) (hb : zR b) (hn : ¬ (0 ≤ a ∧ a ≤ b ∧ b < L)) : cI l yX1_greatestSum wsX1_greatestSum ({ frames := 3, cells := 0, slots := 0, locals := 65 }) D (tyS c1 c2 c3) [.ref (h 0), .int (zI a), .int (zI b)] (wN h c1 th L K Dm S lo hi su db dy li so sp X ke se) (wN h c1 1 L K Dm S lo hi su db dy li so sp X ke se) (zI 0) 0 0 := by
  refine cI.of (cc := cX1_greatestSum) (maxL := 3) (ret := .int) (by decide) rfl (lv := [(0, .ref (h 0)), (1, .int (zI a)), (2, .int (zI b))]) [0, 1, 2] rfl (Nat.le_of_ble_eq_true rfl) ?_
  intro p e s m args below meth c A C hr
  have C : GC p s m args meth c cX1_greatestSum 3 RX1 wsX1_greatestSum D (tyS c1 c2 c3) A := C
  have hin : ∀ w ∈ wsX10, w ∈ wsX1_greatestSum := fun _ h => List.mem_cons_of_mem _ (List.mem_append_right _ h)
  obtain ⟨ha1, ha2⟩ := ha
  obtain ⟨hb1, hb2⟩ := hb
  refine j_aload_n (pc := 0) C dX1_greatestSum_0 0 rfl ?_
  refine j_iconst (pc := 1) C dX1_greatestSum_1 ?_
  refine j_put (pc := 2) C (ref := "GrainSiloModel") (T := TX1) (N := 16) (ws' := wN h c1 0 L K Dm S lo hi su db dy li so sp X ke se) hin tyX1 tyX1_ok nmX1 0 rfl rfl 0 (by decide) (C.w 1 rfl) rfl rfl (by decide +kernel) (Nat.le_of_ble_eq_true rfl) rfl dX1_greatestSum_2 ?_
  refine j_aload_n (pc := 5) C dX1_greatestSum_5 0 rfl ?_
  refine j_iload_n (pc := 6) C dX1_greatestSum_6 1 rfl ?_
  refine j_iload_n (pc := 7) C dX1_greatestSum_7 2 rfl ?_
  refine j_callI (pc := 8) C (As := [.int (zI a), .int (zI b)]) (rest := []) (kX1_areLayers l D h c1 c2 c3 0 L K Dm S lo hi su db dy li so sp X ke se a b (by omega) (by omega) ⟨by omega, by omega⟩ ⟨by omega, by omega⟩) (cwV 2 C.2.2.2.2.1 gX1_greatestSum_X1_areLayers rfl rfl rfl (by decide +kernel) ⟨Nat.le_of_ble_eq_true rfl, Nat.le_of_ble_eq_true rfl⟩) 0 (ci := 1) rfl rfl rfl dX1_greatestSum_8 rfl rfl (Nat.le_of_ble_eq_true rfl) (by decide) ?_
  refine j_if_ne (pc := 11) C 20 dX1_greatestSum_11 (by decide) ⟨by omega, by omega⟩ (fun c_11 => absurd c_11 (by omega)) (fun c_11 => ?_)
  refine j_aload_n (pc := 14) C dX1_greatestSum_14 0 rfl ?_
  refine j_iconst (pc := 15) C dX1_greatestSum_15 ?_
  refine j_callI (pc := 16) C (As := [.int (zI 1)]) (rest := []) (kX1_no l D h c1 c2 c3 0 L K Dm S lo hi su db dy li so sp X ke se 1 ) (cwV 1 C.2.2.2.2.1 gX1_greatestSum_X1_no rfl rfl rfl (by decide +kernel) ⟨Nat.le_of_ble_eq_true rfl, Nat.le_of_ble_eq_true rfl⟩) 0 (ci := 1) rfl rfl rfl dX1_greatestSum_16 rfl rfl (Nat.le_of_ble_eq_true rfl) (by decide) ?_
  exact j_iret (pc := 19) C hr dX1_greatestSum_19 (by rfl) (by rfl) (by decide) (by decide)
set_option maxHeartbeats 4000000 in
set_option maxRecDepth 100000 in
theorem kX1_leastOf (l : Launch) (D : va_G) (h : Nat → Nat) (c1 c2 c3 : ClassId) (th L : Int) (K Dm : Int → Int) (S : Int) (lo hi su db : Int → Int) (dy li so sp : Int) (X : Int → Int → Int) (ke se : Int → Int) (a : Int) (hok : okS Dm L lo hi su db S) (h0 : 0 ≤ a) (h1 : a < L) : cI l yX1_leastOf wsX1_leastOf ({ frames := 6, cells := 0, slots := 0, locals := 132 }) D (tyS c1 c2 c3) [.ref (h 0), .int (zI a)] (wN h c1 th L K Dm S lo hi su db dy li so sp X ke se) (wN h c1 0 L K Dm S lo hi su db dy li so sp (fw (bgn X L lo hi su db S) L (L + 1)) ke se) (zI (-((fw (bgn X L lo hi su db S) L (L + 1)) (a + 1) a))) 0 0 := by
  refine cI.of (cc := cX1_leastOf) (maxL := 2) (ret := .int) (by decide) rfl (lv := [(0, .ref (h 0)), (1, .int (zI a))]) [0, 1] rfl (Nat.le_of_ble_eq_true rfl) ?_
  intro p e s m args below meth c A C hr
  have C : GC p s m args meth c cX1_leastOf 2 RX1 wsX1_leastOf D (tyS c1 c2 c3) A := C
  have hin : ∀ w ∈ wsX10, w ∈ wsX1_leastOf := fun _ h => List.mem_cons_of_mem _ (List.mem_append_right _ h)
  refine j_aload_n (pc := 0) C dX1_leastOf_0 0 rfl ?_
  refine j_iload_n (pc := 1) C dX1_leastOf_1 1 rfl ?_
  refine j_iload_n (pc := 2) C dX1_leastOf_2 1 rfl ?_
  refine j_callI (pc := 3) C (As := [.int (zI a), .int (zI a)]) (rest := []) (kX1_leastSum l D h c1 c2 c3 th L K Dm S lo hi su db dy li so sp X ke se a a hok (by omega) (by omega) (by omega)) (cwV 2 C.2.2.2.2.1 gX1_leastOf_X1_leastSum rfl rfl rfl (by decide +kernel) ⟨Nat.le_of_ble_eq_true rfl, Nat.le_of_ble_eq_true rfl⟩) 0 (ci := 1) rfl rfl rfl dX1_leastOf_3 rfl rfl (Nat.le_of_ble_eq_true rfl) (by decide) ?_
  exact j_iret (pc := 6) C hr dX1_leastOf_6 (by rfl) (by rfl) (by decide) (by decide)
set_option maxHeartbeats 4000000 in
set_option maxRecDepth 100000 in
theorem kX1_leastOf_no1 (l : Launch) (D : va_G) (h : Nat → Nat) (c1 c2 c3 : ClassId) (th L : Int) (K Dm : Int → Int) (S : Int) (lo hi su db : Int → Int) (dy li so sp : Int) (X : Int → Int → Int) (ke se : Int → Int) (a : Int) (hL0 : 0 ≤ L) (hL : L ≤ 12) (ha : zR a) (hn : ¬ (0 ≤ a ∧ a < L)) : cI l yX1_leastOf wsX1_leastOf ({ frames := 4, cells := 0, slots := 0, locals := 87 }) D (tyS c1 c2 c3) [.ref (h 0), .int (zI a)] (wN h c1 th L K Dm S lo hi su db dy li so sp X ke se) (wN h c1 1 L K Dm S lo hi su db dy li so sp X ke se) (zI 0) 0 0 := by
  refine cI.of (cc := cX1_leastOf) (maxL := 2) (ret := .int) (by decide) rfl (lv := [(0, .ref (h 0)), (1, .int (zI a))]) [0, 1] rfl (Nat.le_of_ble_eq_true rfl) ?_
  intro p e s m args below meth c A C hr
  have C : GC p s m args meth c cX1_leastOf 2 RX1 wsX1_leastOf D (tyS c1 c2 c3) A := C
  have hin : ∀ w ∈ wsX10, w ∈ wsX1_leastOf := fun _ h => List.mem_cons_of_mem _ (List.mem_append_right _ h)
  obtain ⟨ha1, ha2⟩ := ha
  refine j_aload_n (pc := 0) C dX1_leastOf_0 0 rfl ?_
  refine j_iload_n (pc := 1) C dX1_leastOf_1 1 rfl ?_
  refine j_iload_n (pc := 2) C dX1_leastOf_2 1 rfl ?_
  refine j_callI (pc := 3) C (As := [.int (zI a), .int (zI a)]) (rest := []) (kX1_leastSum_no1 l D h c1 c2 c3 th L K Dm S lo hi su db dy li so sp X ke se a a (by omega) (by omega) ⟨by omega, by omega⟩ ⟨by omega, by omega⟩ (by omega)) (cwV 2 C.2.2.2.2.1 gX1_leastOf_X1_leastSum rfl rfl rfl (by decide +kernel) ⟨Nat.le_of_ble_eq_true rfl, Nat.le_of_ble_eq_true rfl⟩) 0 (ci := 1) rfl rfl rfl dX1_leastOf_3 rfl rfl (Nat.le_of_ble_eq_true rfl) (by decide) ?_
  exact j_iret (pc := 6) C hr dX1_leastOf_6 (by rfl) (by rfl) (by decide) (by decide)
set_option maxHeartbeats 4000000 in
set_option maxRecDepth 100000 in
theorem kX1_greatestOf (l : Launch) (D : va_G) (h : Nat → Nat) (c1 c2 c3 : ClassId) (th L : Int) (K Dm : Int → Int) (S : Int) (lo hi su db : Int → Int) (dy li so sp : Int) (X : Int → Int → Int) (ke se : Int → Int) (a : Int) (hok : okS Dm L lo hi su db S) (h0 : 0 ≤ a) (h1 : a < L) : cI l yX1_greatestOf wsX1_greatestOf ({ frames := 6, cells := 0, slots := 0, locals := 132 }) D (tyS c1 c2 c3) [.ref (h 0), .int (zI a)] (wN h c1 th L K Dm S lo hi su db dy li so sp X ke se) (wN h c1 0 L K Dm S lo hi su db dy li so sp (fw (bgn X L lo hi su db S) L (L + 1)) ke se) (zI ((fw (bgn X L lo hi su db S) L (L + 1)) a (a + 1))) 0 0 := by
  refine cI.of (cc := cX1_greatestOf) (maxL := 2) (ret := .int) (by decide) rfl (lv := [(0, .ref (h 0)), (1, .int (zI a))]) [0, 1] rfl (Nat.le_of_ble_eq_true rfl) ?_
  intro p e s m args below meth c A C hr
  have C : GC p s m args meth c cX1_greatestOf 2 RX1 wsX1_greatestOf D (tyS c1 c2 c3) A := C
  have hin : ∀ w ∈ wsX10, w ∈ wsX1_greatestOf := fun _ h => List.mem_cons_of_mem _ (List.mem_append_right _ h)
  refine j_aload_n (pc := 0) C dX1_greatestOf_0 0 rfl ?_
  refine j_iload_n (pc := 1) C dX1_greatestOf_1 1 rfl ?_
  refine j_iload_n (pc := 2) C dX1_greatestOf_2 1 rfl ?_
  refine j_callI (pc := 3) C (As := [.int (zI a), .int (zI a)]) (rest := []) (kX1_greatestSum l D h c1 c2 c3 th L K Dm S lo hi su db dy li so sp X ke se a a hok (by omega) (by omega) (by omega)) (cwV 2 C.2.2.2.2.1 gX1_greatestOf_X1_greatestSum rfl rfl rfl (by decide +kernel) ⟨Nat.le_of_ble_eq_true rfl, Nat.le_of_ble_eq_true rfl⟩) 0 (ci := 1) rfl rfl rfl dX1_greatestOf_3 rfl rfl (Nat.le_of_ble_eq_true rfl) (by decide) ?_
  exact j_iret (pc := 6) C hr dX1_greatestOf_6 (by rfl) (by rfl) (by decide) (by decide)
set_option maxHeartbeats 4000000 in
set_option maxRecDepth 100000 in
theorem kX1_greatestOf_no1 (l : Launch) (D : va_G) (h : Nat → Nat) (c1 c2 c3 : ClassId) (th L : Int) (K Dm : Int → Int) (S : Int) (lo hi su db : Int → Int) (dy li so sp : Int) (X : Int → Int → Int) (ke se : Int → Int) (a : Int) (hL0 : 0 ≤ L) (hL : L ≤ 12) (ha : zR a) (hn : ¬ (0 ≤ a ∧ a < L)) : cI l yX1_greatestOf wsX1_greatestOf ({ frames := 4, cells := 0, slots := 0, locals := 87 }) D (tyS c1 c2 c3) [.ref (h 0), .int (zI a)] (wN h c1 th L K Dm S lo hi su db dy li so sp X ke se) (wN h c1 1 L K Dm S lo hi su db dy li so sp X ke se) (zI 0) 0 0 := by
  refine cI.of (cc := cX1_greatestOf) (maxL := 2) (ret := .int) (by decide) rfl (lv := [(0, .ref (h 0)), (1, .int (zI a))]) [0, 1] rfl (Nat.le_of_ble_eq_true rfl) ?_
  intro p e s m args below meth c A C hr
  have C : GC p s m args meth c cX1_greatestOf 2 RX1 wsX1_greatestOf D (tyS c1 c2 c3) A := C
  have hin : ∀ w ∈ wsX10, w ∈ wsX1_greatestOf := fun _ h => List.mem_cons_of_mem _ (List.mem_append_right _ h)
  obtain ⟨ha1, ha2⟩ := ha
  refine j_aload_n (pc := 0) C dX1_greatestOf_0 0 rfl ?_
  refine j_iload_n (pc := 1) C dX1_greatestOf_1 1 rfl ?_
  refine j_iload_n (pc := 2) C dX1_greatestOf_2 1 rfl ?_
  refine j_callI (pc := 3) C (As := [.int (zI a), .int (zI a)]) (rest := []) (kX1_greatestSum_no1 l D h c1 c2 c3 th L K Dm S lo hi su db dy li so sp X ke se a a (by omega) (by omega) ⟨by omega, by omega⟩ ⟨by omega, by omega⟩ (by omega)) (cwV 2 C.2.2.2.2.1 gX1_greatestOf_X1_greatestSum rfl rfl rfl (by decide +kernel) ⟨Nat.le_of_ble_eq_true rfl, Nat.le_of_ble_eq_true rfl⟩) 0 (ci := 1) rfl rfl rfl dX1_greatestOf_3 rfl rfl (Nat.le_of_ble_eq_true rfl) (by decide) ?_
  exact j_iret (pc := 6) C hr dX1_greatestOf_6 (by rfl) (by rfl) (by decide) (by decide)
set_option maxHeartbeats 4000000 in
set_option maxRecDepth 100000 in
theorem kX1_isKnown (l : Launch) (D : va_G) (h : Nat → Nat) (c1 c2 c3 : ClassId) (th L : Int) (K Dm : Int → Int) (S : Int) (lo hi su db : Int → Int) (dy li so sp : Int) (X : Int → Int → Int) (ke se : Int → Int) (a : Int) (hok : okS Dm L lo hi su db S) (h0 : 0 ≤ a) (h1 : a < L) : cI l yX1_isKnown wsX1_isKnown ({ frames := 5, cells := 0, slots := 0, locals := 110 }) D (tyS c1 c2 c3) [.ref (h 0), .int (zI a)] (wN h c1 th L K Dm S lo hi su db dy li so sp X ke se) (wN h c1 0 L K Dm S lo hi su db dy li so sp (fw (bgn X L lo hi su db S) L (L + 1)) ke se) (zI (if -((fw (bgn X L lo hi su db S) L (L + 1)) (a + 1) a) = (fw (bgn X L lo hi su db S) L (L + 1)) a (a + 1) then 1 else 0)) 0 0 := by
  refine cI.of (cc := cX1_isKnown) (maxL := 2) (ret := .boolean) (by decide) rfl (lv := [(0, .ref (h 0)), (1, .int (zI a))]) [0, 1] rfl (Nat.le_of_ble_eq_true rfl) ?_
  intro p e s m args below meth c A C hr
  have C : GC p s m args meth c cX1_isKnown 2 RX1 wsX1_isKnown D (tyS c1 c2 c3) A := C
  have hin : ∀ w ∈ wsX10, w ∈ wsX1_isKnown := fun _ h => List.mem_cons_of_mem _ (List.mem_append_right _ h)
  obtain ⟨⟨hL0, hL⟩, ⟨hS0, hS⟩, hf, hs⟩ := id hok
  have w := Fok_fw (Fok_bgn hok X) (L + 1) (by omega) (Int.le_refl _)
  have hB := Fok_B hL hf w
  have q1 := hB a (a + 1) (by omega) (by omega) (by omega) (by omega)
  have q2 := hB (a + 1) a (by omega) (by omega) (by omega) (by omega)
  refine j_aload_n (pc := 0) C dX1_isKnown_0 0 rfl ?_
  refine j_iconst (pc := 1) C dX1_isKnown_1 ?_
  refine j_put (pc := 2) C (ref := "GrainSiloModel") (T := TX1) (N := 16) (ws' := wN h c1 0 L K Dm S lo hi su db dy li so sp X ke se) hin tyX1 tyX1_ok nmX1 0 rfl rfl 0 (by decide) (C.w 1 rfl) rfl rfl (by decide +kernel) (Nat.le_of_ble_eq_true rfl) rfl dX1_isKnown_2 ?_
  refine j_aload_n (pc := 5) C dX1_isKnown_5 0 rfl ?_
  refine j_iload_n (pc := 6) C dX1_isKnown_6 1 rfl ?_
  refine j_callI (pc := 7) C (As := [.int (zI a)]) (rest := []) (kX1_isLayer l D h c1 c2 c3 0 L K Dm S lo hi su db dy li so sp X ke se a (by omega) (by omega) ⟨by omega, by omega⟩) (cwV 1 C.2.2.2.2.1 gX1_isKnown_X1_isLayer rfl rfl rfl (by decide +kernel) ⟨Nat.le_of_ble_eq_true rfl, Nat.le_of_ble_eq_true rfl⟩) 0 (ci := 1) rfl rfl rfl dX1_isKnown_7 rfl rfl (Nat.le_of_ble_eq_true rfl) (by decide) ?_
  refine j_if_ne (pc := 10) C 19 dX1_isKnown_10 (by decide) ⟨by omega, by omega⟩ (fun c_10 => ?_) (fun c_10 => absurd c_10 (by omega))
  refine j_aload_n (pc := 19) C dX1_isKnown_19 0 rfl ?_
  refine j_callV (pc := 20) C (As := []) (rest := []) (kX1_reckon l D h c1 c2 c3 0 L K Dm S lo hi su db dy li so sp X ke se  hok) (cwV 0 C.2.2.2.2.1 gX1_isKnown_X1_reckon rfl rfl rfl (by decide +kernel) ⟨Nat.le_of_ble_eq_true rfl, Nat.le_of_ble_eq_true rfl⟩) 0 (ci := 1) rfl rfl rfl dX1_isKnown_20 rfl rfl (Nat.le_of_ble_eq_true rfl) (by decide) ?_
  refine j_aload_n (pc := 23) C dX1_isKnown_23 0 rfl ?_
  refine j_iload_n (pc := 24) C dX1_isKnown_24 1 rfl ?_
  refine j_iload_n (pc := 25) C dX1_isKnown_25 1 rfl ?_
  refine j_callI (pc := 26) C (As := [.int (zI a), .int (zI a)]) (rest := []) (kX1_least l D h c1 c2 c3 0 L K Dm S lo hi su db dy li so sp (fw (bgn X L lo hi su db S) L (L + 1)) ke se a a (by omega) (by omega) (by omega) (by omega)) (cwV 2 C.2.2.2.2.1 gX1_isKnown_X1_least rfl rfl rfl (by decide +kernel) ⟨Nat.le_of_ble_eq_true rfl, Nat.le_of_ble_eq_true rfl⟩) 0 (ci := 1) rfl rfl rfl dX1_isKnown_26 rfl rfl (Nat.le_of_ble_eq_true rfl) (by decide) ?_
  refine j_aload_n (pc := 29) C dX1_isKnown_29 0 rfl ?_
  refine j_iload_n (pc := 30) C dX1_isKnown_30 1 rfl ?_
  refine j_iload_n (pc := 31) C dX1_isKnown_31 1 rfl ?_
  refine j_callI (pc := 32) C (As := [.int (zI a), .int (zI a)]) (rest := [.int (zI (-((fw (bgn X L lo hi su db S) L (L + 1)) (a + 1) a)))]) (kX1_greatest l D h c1 c2 c3 0 L K Dm S lo hi su db dy li so sp (fw (bgn X L lo hi su db S) L (L + 1)) ke se a a (by omega) (by omega) (by omega) (by omega)) (cwV 2 C.2.2.2.2.1 gX1_isKnown_X1_greatest rfl rfl rfl (by decide +kernel) ⟨Nat.le_of_ble_eq_true rfl, Nat.le_of_ble_eq_true rfl⟩) 0 (ci := 1) rfl rfl rfl dX1_isKnown_32 rfl rfl (Nat.le_of_ble_eq_true rfl) (by decide) ?_
  refine j_icmp_ne (pc := 35) C 42 dX1_isKnown_35 (by decide) ⟨by omega, by omega⟩ ⟨by omega, by omega⟩ (fun c_35 => ?_) (fun c_35 => ?_)
  · skip
    refine j_iconst (pc := 42) C dX1_isKnown_42 ?_
    exact j_zret (pc := 43) C hr dX1_isKnown_43 rfl (by first | rfl | rw [if_pos (by omega)] | rw [if_neg (by omega)]) (by rfl) (by decide) (by decide)
  · skip
    refine j_iconst (pc := 38) C dX1_isKnown_38 ?_
    refine j_goto (pc := 39) C 43 dX1_isKnown_39 (by decide) ?_
    exact j_zret (pc := 43) C hr dX1_isKnown_43 rfl (by first | rfl | rw [if_pos (by omega)] | rw [if_neg (by omega)]) (by rfl) (by decide) (by decide)
set_option maxHeartbeats 4000000 in
set_option maxRecDepth 100000 in
theorem kX1_isKnown_no1 (l : Launch) (D : va_G) (h : Nat → Nat) (c1 c2 c3 : ClassId) (th L : Int) (K Dm : Int → Int) (S : Int) (lo hi su db : Int → Int) (dy li so sp : Int) (X : Int → Int → Int) (ke se : Int → Int) (a : Int) (hL0 : 0 ≤ L) (hL : L ≤ 12) (ha : zR a) (hn : ¬ (0 ≤ a ∧ a < L)) : cI l yX1_isKnown wsX1_isKnown ({ frames := 2, cells := 0, slots := 0, locals := 43 }) D (tyS c1 c2 c3) [.ref (h 0), .int (zI a)] (wN h c1 th L K Dm S lo hi su db dy li so sp X ke se) (wN h c1 1 L K Dm S lo hi su db dy li so sp X ke se) (zI 0) 0 0 := by
  refine cI.of (cc := cX1_isKnown) (maxL := 2) (ret := .boolean) (by decide) rfl (lv := [(0, .ref (h 0)), (1, .int (zI a))]) [0, 1] rfl (Nat.le_of_ble_eq_true rfl) ?_
  intro p e s m args below meth c A C hr
  have C : GC p s m args meth c cX1_isKnown 2 RX1 wsX1_isKnown D (tyS c1 c2 c3) A := C
  have hin : ∀ w ∈ wsX10, w ∈ wsX1_isKnown := fun _ h => List.mem_cons_of_mem _ (List.mem_append_right _ h)
  obtain ⟨ha1, ha2⟩ := ha
  refine j_aload_n (pc := 0) C dX1_isKnown_0 0 rfl ?_
  refine j_iconst (pc := 1) C dX1_isKnown_1 ?_
  refine j_put (pc := 2) C (ref := "GrainSiloModel") (T := TX1) (N := 16) (ws' := wN h c1 0 L K Dm S lo hi su db dy li so sp X ke se) hin tyX1 tyX1_ok nmX1 0 rfl rfl 0 (by decide) (C.w 1 rfl) rfl rfl (by decide +kernel) (Nat.le_of_ble_eq_true rfl) rfl dX1_isKnown_2 ?_
  refine j_aload_n (pc := 5) C dX1_isKnown_5 0 rfl ?_
  refine j_iload_n (pc := 6) C dX1_isKnown_6 1 rfl ?_
  refine j_callI (pc := 7) C (As := [.int (zI a)]) (rest := []) (kX1_isLayer l D h c1 c2 c3 0 L K Dm S lo hi su db dy li so sp X ke se a (by omega) (by omega) ⟨by omega, by omega⟩) (cwV 1 C.2.2.2.2.1 gX1_isKnown_X1_isLayer rfl rfl rfl (by decide +kernel) ⟨Nat.le_of_ble_eq_true rfl, Nat.le_of_ble_eq_true rfl⟩) 0 (ci := 1) rfl rfl rfl dX1_isKnown_7 rfl rfl (Nat.le_of_ble_eq_true rfl) (by decide) ?_
  refine j_if_ne (pc := 10) C 19 dX1_isKnown_10 (by decide) ⟨by omega, by omega⟩ (fun c_10 => absurd c_10 (by omega)) (fun c_10 => ?_)
  refine j_aload_n (pc := 13) C dX1_isKnown_13 0 rfl ?_
  refine j_iconst (pc := 14) C dX1_isKnown_14 ?_
  refine j_callI (pc := 15) C (As := [.int (zI 1)]) (rest := []) (kX1_isNot l D h c1 c2 c3 0 L K Dm S lo hi su db dy li so sp X ke se 1 ) (cwV 1 C.2.2.2.2.1 gX1_isKnown_X1_isNot rfl rfl rfl (by decide +kernel) ⟨Nat.le_of_ble_eq_true rfl, Nat.le_of_ble_eq_true rfl⟩) 0 (ci := 1) rfl rfl rfl dX1_isKnown_15 rfl rfl (Nat.le_of_ble_eq_true rfl) (by decide) ?_
  exact j_zret (pc := 18) C hr dX1_isKnown_18 rfl (by rfl) (by rfl) (by decide) (by decide)
set_option maxHeartbeats 4000000 in
set_option maxRecDepth 100000 in
theorem kX1_surelyDry (l : Launch) (D : va_G) (h : Nat → Nat) (c1 c2 c3 : ClassId) (th L : Int) (K Dm : Int → Int) (S : Int) (lo hi su db : Int → Int) (dy li so sp : Int) (X : Int → Int → Int) (ke se : Int → Int) (hok : okS Dm L lo hi su db S) (l0 : 0 ≤ li) (l1 : li ≤ 40) : cI l yX1_surelyDry wsX1_surelyDry ({ frames := 5, cells := 0, slots := 0, locals := 110 }) D (tyS c1 c2 c3) [.ref (h 0)] (wN h c1 th L K Dm S lo hi su db dy li so sp X ke se) (wN h c1 0 L K Dm S lo hi su db dy li so sp (fw (bgn X L lo hi su db S) L (L + 1)) ke se) (zI ((nDry (fw (bgn X L lo hi su db S) L (L + 1)) li L))) 0 0 := by
  refine cI.of (cc := cX1_surelyDry) (maxL := 1) (ret := .int) (by decide) rfl (lv := [(0, .ref (h 0))]) [0] rfl (Nat.le_of_ble_eq_true rfl) ?_
  intro p e s m args below meth c A C hr
  have C : GC p s m args meth c cX1_surelyDry 1 RX1 wsX1_surelyDry D (tyS c1 c2 c3) A := C
  have hin : ∀ w ∈ wsX10, w ∈ wsX1_surelyDry := fun _ h => List.mem_cons_of_mem _ (List.mem_append_right _ h)
  obtain ⟨⟨hL0, hL⟩, ⟨hS0, hS⟩, hf, hs⟩ := id hok
  have w := Fok_fw (Fok_bgn hok X) (L + 1) (by omega) (Int.le_refl _)
  have hB := Fok_B hL hf w
  refine j_aload_n (pc := 0) C dX1_surelyDry_0 0 rfl ?_
  refine j_callV (pc := 1) C (As := []) (rest := []) (kX1_reckon l D h c1 c2 c3 th L K Dm S lo hi su db dy li so sp X ke se  hok) (cwV 0 C.2.2.2.2.1 gX1_surelyDry_X1_reckon rfl rfl rfl (by decide +kernel) ⟨Nat.le_of_ble_eq_true rfl, Nat.le_of_ble_eq_true rfl⟩) 0 (ci := 1) rfl rfl rfl dX1_surelyDry_1 rfl rfl (Nat.le_of_ble_eq_true rfl) (by decide) ?_
  refine j_aload_n (pc := 4) C dX1_surelyDry_4 0 rfl ?_
  refine j_aload_n (pc := 5) C dX1_surelyDry_5 0 rfl ?_
  refine j_iconst (pc := 6) C dX1_surelyDry_6 ?_
  refine j_callI (pc := 7) C (As := [.int (zI 1)]) (rest := [.ref (h 0)]) (kX1_surely_t l D h c1 c2 c3 th L K Dm S lo hi su db dy li so sp (fw (bgn X L lo hi su db S) L (L + 1)) ke se  (by omega) (by omega) (by omega) (by omega) hB) (cwV 1 C.2.2.2.2.1 gX1_surelyDry_X1_surely rfl rfl rfl (by decide +kernel) ⟨Nat.le_of_ble_eq_true rfl, Nat.le_of_ble_eq_true rfl⟩) 0 (ci := 1) rfl rfl rfl dX1_surelyDry_7 rfl rfl (Nat.le_of_ble_eq_true rfl) (by decide) ?_
  refine j_callI (pc := 10) C (As := [.int (zI (nDry (fw (bgn X L lo hi su db S) L (L + 1)) li L))]) (rest := []) (kX1_ok l D h c1 c2 c3 th L K Dm S lo hi su db dy li so sp (fw (bgn X L lo hi su db S) L (L + 1)) ke se (nDry (fw (bgn X L lo hi su db S) L (L + 1)) li L) ) (cwV 1 C.2.2.2.2.1 gX1_surelyDry_X1_ok rfl rfl rfl (by decide +kernel) ⟨Nat.le_of_ble_eq_true rfl, Nat.le_of_ble_eq_true rfl⟩) 0 (ci := 1) rfl rfl rfl dX1_surelyDry_10 rfl rfl (Nat.le_of_ble_eq_true rfl) (by decide) ?_
  exact j_iret (pc := 13) C hr dX1_surelyDry_13 (by rfl) (by rfl) (by decide) (by decide)
set_option maxHeartbeats 4000000 in
set_option maxRecDepth 100000 in
theorem kX1_surelyDamp (l : Launch) (D : va_G) (h : Nat → Nat) (c1 c2 c3 : ClassId) (th L : Int) (K Dm : Int → Int) (S : Int) (lo hi su db : Int → Int) (dy li so sp : Int) (X : Int → Int → Int) (ke se : Int → Int) (hok : okS Dm L lo hi su db S) (l0 : 0 ≤ li) (l1 : li ≤ 40) : cI l yX1_surelyDamp wsX1_surelyDamp ({ frames := 5, cells := 0, slots := 0, locals := 110 }) D (tyS c1 c2 c3) [.ref (h 0)] (wN h c1 th L K Dm S lo hi su db dy li so sp X ke se) (wN h c1 0 L K Dm S lo hi su db dy li so sp (fw (bgn X L lo hi su db S) L (L + 1)) ke se) (zI ((nDamp (fw (bgn X L lo hi su db S) L (L + 1)) li L))) 0 0 := by
  refine cI.of (cc := cX1_surelyDamp) (maxL := 1) (ret := .int) (by decide) rfl (lv := [(0, .ref (h 0))]) [0] rfl (Nat.le_of_ble_eq_true rfl) ?_
  intro p e s m args below meth c A C hr
  have C : GC p s m args meth c cX1_surelyDamp 1 RX1 wsX1_surelyDamp D (tyS c1 c2 c3) A := C
  have hin : ∀ w ∈ wsX10, w ∈ wsX1_surelyDamp := fun _ h => List.mem_cons_of_mem _ (List.mem_append_right _ h)
  obtain ⟨⟨hL0, hL⟩, ⟨hS0, hS⟩, hf, hs⟩ := id hok
  have w := Fok_fw (Fok_bgn hok X) (L + 1) (by omega) (Int.le_refl _)
  have hB := Fok_B hL hf w
  refine j_aload_n (pc := 0) C dX1_surelyDamp_0 0 rfl ?_
  refine j_callV (pc := 1) C (As := []) (rest := []) (kX1_reckon l D h c1 c2 c3 th L K Dm S lo hi su db dy li so sp X ke se  hok) (cwV 0 C.2.2.2.2.1 gX1_surelyDamp_X1_reckon rfl rfl rfl (by decide +kernel) ⟨Nat.le_of_ble_eq_true rfl, Nat.le_of_ble_eq_true rfl⟩) 0 (ci := 1) rfl rfl rfl dX1_surelyDamp_1 rfl rfl (Nat.le_of_ble_eq_true rfl) (by decide) ?_
  refine j_aload_n (pc := 4) C dX1_surelyDamp_4 0 rfl ?_
  refine j_aload_n (pc := 5) C dX1_surelyDamp_5 0 rfl ?_
  refine j_iconst (pc := 6) C dX1_surelyDamp_6 ?_
  refine j_callI (pc := 7) C (As := [.int (zI 0)]) (rest := [.ref (h 0)]) (kX1_surely_f l D h c1 c2 c3 th L K Dm S lo hi su db dy li so sp (fw (bgn X L lo hi su db S) L (L + 1)) ke se  (by omega) (by omega) (by omega) (by omega) hB) (cwV 1 C.2.2.2.2.1 gX1_surelyDamp_X1_surely rfl rfl rfl (by decide +kernel) ⟨Nat.le_of_ble_eq_true rfl, Nat.le_of_ble_eq_true rfl⟩) 0 (ci := 1) rfl rfl rfl dX1_surelyDamp_7 rfl rfl (Nat.le_of_ble_eq_true rfl) (by decide) ?_
  refine j_callI (pc := 10) C (As := [.int (zI (nDamp (fw (bgn X L lo hi su db S) L (L + 1)) li L))]) (rest := []) (kX1_ok l D h c1 c2 c3 th L K Dm S lo hi su db dy li so sp (fw (bgn X L lo hi su db S) L (L + 1)) ke se (nDamp (fw (bgn X L lo hi su db S) L (L + 1)) li L) ) (cwV 1 C.2.2.2.2.1 gX1_surelyDamp_X1_ok rfl rfl rfl (by decide +kernel) ⟨Nat.le_of_ble_eq_true rfl, Nat.le_of_ble_eq_true rfl⟩) 0 (ci := 1) rfl rfl rfl dX1_surelyDamp_10 rfl rfl (Nat.le_of_ble_eq_true rfl) (by decide) ?_
  exact j_iret (pc := 13) C hr dX1_surelyDamp_13 (by rfl) (by rfl) (by decide) (by decide)
set_option maxHeartbeats 4000000 in
set_option maxRecDepth 100000 in
theorem kX1_worstLayer (l : Launch) (D : va_G) (h : Nat → Nat) (c1 c2 c3 : ClassId) (th L : Int) (K Dm : Int → Int) (S : Int) (lo hi su db : Int → Int) (dy li so sp : Int) (X : Int → Int → Int) (ke se : Int → Int) (hok : okS Dm L lo hi su db S) (h0 : 0 < L) : cI l yX1_worstLayer wsX1_worstLayer ({ frames := 5, cells := 0, slots := 0, locals := 110 }) D (tyS c1 c2 c3) [.ref (h 0)] (wN h c1 th L K Dm S lo hi su db dy li so sp X ke se) (wN h c1 0 L K Dm S lo hi su db dy li so sp (fw (bgn X L lo hi su db S) L (L + 1)) ke se) (zI (ag (fun x y => decide ((fw (bgn X L lo hi su db S) L (L + 1)) y (y + 1) < (fw (bgn X L lo hi su db S) L (L + 1)) x (x + 1))) L)) 0 0 := by
  refine cI.of (cc := cX1_worstLayer) (maxL := 3) (ret := .int) (by decide) rfl (lv := [(0, .ref (h 0))]) [0] rfl (Nat.le_of_ble_eq_true rfl) ?_
  intro p e s m args below meth c A C hr
  have C : GC p s m args meth c cX1_worstLayer 3 RX1 wsX1_worstLayer D (tyS c1 c2 c3) A := C
  have hin : ∀ w ∈ wsX10, w ∈ wsX1_worstLayer := fun _ h => List.mem_cons_of_mem _ (List.mem_append_right _ h)
  obtain ⟨⟨hL0, hL⟩, ⟨hS0, hS⟩, hf, hs⟩ := id hok
  have w := Fok_fw (Fok_bgn hok X) (L + 1) (by omega) (Int.le_refl _)
  have hB := Fok_B hL hf w
  refine j_aload_n (pc := 0) C dX1_worstLayer_0 0 rfl ?_
  refine j_iconst (pc := 1) C dX1_worstLayer_1 ?_
  refine j_put (pc := 2) C (ref := "GrainSiloModel") (T := TX1) (N := 16) (ws' := wN h c1 0 L K Dm S lo hi su db dy li so sp X ke se) hin tyX1 tyX1_ok nmX1 0 rfl rfl 0 (by decide) (C.w 1 rfl) rfl rfl (by decide +kernel) (Nat.le_of_ble_eq_true rfl) rfl dX1_worstLayer_2 ?_
  refine j_aload_n (pc := 5) C dX1_worstLayer_5 0 rfl ?_
  refine j_get (pc := 6) C (ref := "GrainSiloModel") (T := TX1) (N := 16) hin 0 rfl rfl 1 (by decide) (C.w 2 rfl) rfl rfl dX1_worstLayer_6 ?_
  refine j_if_ne (pc := 9) C 18 dX1_worstLayer_9 (by decide) ⟨by omega, by omega⟩ (fun c_9 => ?_) (fun c_9 => absurd c_9 (by omega))
  refine j_aload_n (pc := 18) C dX1_worstLayer_18 0 rfl ?_
  refine j_callV (pc := 19) C (As := []) (rest := []) (kX1_reckon l D h c1 c2 c3 0 L K Dm S lo hi su db dy li so sp X ke se  hok) (cwV 0 C.2.2.2.2.1 gX1_worstLayer_X1_reckon rfl rfl rfl (by decide +kernel) ⟨Nat.le_of_ble_eq_true rfl, Nat.le_of_ble_eq_true rfl⟩) 0 (ci := 1) rfl rfl rfl dX1_worstLayer_19 rfl rfl (Nat.le_of_ble_eq_true rfl) (by decide) ?_
  refine j_iconst (pc := 22) C dX1_worstLayer_22 ?_
  refine j_istore_n (pc := 23) C (lv' := [(0, .ref (h 0)), (1, .int (zI 0))]) dX1_worstLayer_23 (by decide) [1, 0] rfl ?_
  refine j_iconst (pc := 24) C dX1_worstLayer_24 ?_
  refine j_istore_n (pc := 25) C (lv' := [(0, .ref (h 0)), (1, .int (zI 0)), (2, .int (zI 1))]) dX1_worstLayer_25 (by decide) [1, 2, 0] rfl ?_
  refine J.cast (ws' := wN h c1 0 L K Dm S lo hi su db dy li so sp (fw (bgn X L lo hi su db S) L (L + 1)) ke se) (lv' := [(0, .ref (h 0)), (1, .int (zI (ag (fun x y => decide ((fw (bgn X L lo hi su db S) L (L + 1)) y (y + 1) < (fw (bgn X L lo hi su db S) L (L + 1)) x (x + 1))) 1))), (2, .int (zI 1))]) ?_ (by rfl) (by rfl) rfl
  refine j_up (fun i : Int => wN h c1 0 L K Dm S lo hi su db dy li so sp (fw (bgn X L lo hi su db S) L (L + 1)) ke se) (fun i : Int => [(0, .ref (h 0)), (1, .int (zI (ag (fun x y => decide ((fw (bgn X L lo hi su db S) L (L + 1)) y (y + 1) < (fw (bgn X L lo hi su db S) L (L + 1)) x (x + 1))) i))), (2, .int (zI i))]) (fun i : Int => True) 1 L (by omega) trivial ?_ ?_
  · intro i h0_26 h1_26 hI_26 hk_26
    try dsimp only at hI_26 hk_26 ⊢
    have g := ag_in (fun x y => decide ((fw (bgn X L lo hi su db S) L (L + 1)) y (y + 1) < (fw (bgn X L lo hi su db S) L (L + 1)) x (x + 1))) i h0_26
    have q1 := hB i (i + 1) (by omega) (by omega) (by omega) (by omega)
    have q2 := hB (ag (fun x y => decide ((fw (bgn X L lo hi su db S) L (L + 1)) y (y + 1) < (fw (bgn X L lo hi su db S) L (L + 1)) x (x + 1))) i) (ag (fun x y => decide ((fw (bgn X L lo hi su db S) L (L + 1)) y (y + 1) < (fw (bgn X L lo hi su db S) L (L + 1)) x (x + 1))) i + 1) (by omega) (by omega) (by omega) (by omega)
    refine j_iload_n (pc := 26) C dX1_worstLayer_26 2 rfl ?_
    refine j_aload_n (pc := 27) C dX1_worstLayer_27 0 rfl ?_
    refine j_get (pc := 28) C (ref := "GrainSiloModel") (T := TX1) (N := 16) hin 0 rfl rfl 1 (by decide) (C.w 2 rfl) rfl rfl dX1_worstLayer_28 ?_
    refine j_icmp_ge (pc := 31) C 57 dX1_worstLayer_31 (by decide) ⟨by omega, by omega⟩ ⟨by omega, by omega⟩ (fun c_31 => absurd c_31 (by omega)) (fun c_31 => ?_)
    refine j_aload_n (pc := 34) C dX1_worstLayer_34 0 rfl ?_
    refine j_iload_n (pc := 35) C dX1_worstLayer_35 2 rfl ?_
    refine j_iload_n (pc := 36) C dX1_worstLayer_36 2 rfl ?_
    refine j_callI (pc := 37) C (As := [.int (zI i), .int (zI i)]) (rest := []) (kX1_greatest l D h c1 c2 c3 0 L K Dm S lo hi su db dy li so sp (fw (bgn X L lo hi su db S) L (L + 1)) ke se i i (by omega) (by omega) (by omega) (by omega)) (cwV 2 C.2.2.2.2.1 gX1_worstLayer_X1_greatest rfl rfl rfl (by decide +kernel) ⟨Nat.le_of_ble_eq_true rfl, Nat.le_of_ble_eq_true rfl⟩) 0 (ci := 1) rfl rfl rfl dX1_worstLayer_37 rfl rfl (Nat.le_of_ble_eq_true rfl) (by decide) ?_
    refine j_aload_n (pc := 40) C dX1_worstLayer_40 0 rfl ?_
    refine j_iload_n (pc := 41) C dX1_worstLayer_41 1 rfl ?_
    refine j_iload_n (pc := 42) C dX1_worstLayer_42 1 rfl ?_
    refine j_callI (pc := 43) C (As := [.int (zI (ag (fun x y => decide ((fw (bgn X L lo hi su db S) L (L + 1)) y (y + 1) < (fw (bgn X L lo hi su db S) L (L + 1)) x (x + 1))) i)), .int (zI (ag (fun x y => decide ((fw (bgn X L lo hi su db S) L (L + 1)) y (y + 1) < (fw (bgn X L lo hi su db S) L (L + 1)) x (x + 1))) i))]) (rest := [.int (zI ((fw (bgn X L lo hi su db S) L (L + 1)) i (i + 1)))]) (kX1_greatest l D h c1 c2 c3 0 L K Dm S lo hi su db dy li so sp (fw (bgn X L lo hi su db S) L (L + 1)) ke se (ag (fun x y => decide ((fw (bgn X L lo hi su db S) L (L + 1)) y (y + 1) < (fw (bgn X L lo hi su db S) L (L + 1)) x (x + 1))) i) (ag (fun x y => decide ((fw (bgn X L lo hi su db S) L (L + 1)) y (y + 1) < (fw (bgn X L lo hi su db S) L (L + 1)) x (x + 1))) i) (by omega) (by omega) (by omega) (by omega)) (cwV 2 C.2.2.2.2.1 gX1_worstLayer_X1_greatest rfl rfl rfl (by decide +kernel) ⟨Nat.le_of_ble_eq_true rfl, Nat.le_of_ble_eq_true rfl⟩) 0 (ci := 1) rfl rfl rfl dX1_worstLayer_43 rfl rfl (Nat.le_of_ble_eq_true rfl) (by decide) ?_
    refine j_icmp_le (pc := 46) C 51 dX1_worstLayer_46 (by decide) ⟨by omega, by omega⟩ ⟨by omega, by omega⟩ (fun c_46 => ?_) (fun c_46 => ?_)
    · skip
      have e2 : ¬ (fw (bgn X L lo hi su db S) L (L + 1)) (ag (fun x y => decide ((fw (bgn X L lo hi su db S) L (L + 1)) y (y + 1) < (fw (bgn X L lo hi su db S) L (L + 1)) x (x + 1))) i) (ag (fun x y => decide ((fw (bgn X L lo hi su db S) L (L + 1)) y (y + 1) < (fw (bgn X L lo hi su db S) L (L + 1)) x (x + 1))) i + 1) < (fw (bgn X L lo hi su db S) L (L + 1)) i (i + 1) := by omega
      refine j_iinc (pc := 51) C (lv' := [(0, .ref (h 0)), (1, .int (zI (ag (fun x y => decide ((fw (bgn X L lo hi su db S) L (L + 1)) y (y + 1) < (fw (bgn X L lo hi su db S) L (L + 1)) x (x + 1))) i))), (2, .int (zI (i + 1)))]) dX1_worstLayer_51 2 rfl (by decide) [1, 2, 0] rfl ?_
      refine j_goto (pc := 54) C 26 dX1_worstLayer_54 (by decide) ?_
      exact J.cast (hk_26 trivial) (by rfl) (by first | (rw [ag_up (fun x y => decide ((fw (bgn X L lo hi su db S) L (L + 1)) y (y + 1) < (fw (bgn X L lo hi su db S) L (L + 1)) x (x + 1))) i h0_26, if_neg (fun q => e2 (of_decide_eq_true q))]) | (rw [ag_up (fun x y => decide ((fw (bgn X L lo hi su db S) L (L + 1)) y (y + 1) < (fw (bgn X L lo hi su db S) L (L + 1)) x (x + 1))) i h0_26, if_pos (decide_eq_true e2)])) rfl
    · skip
      have e2 : (fw (bgn X L lo hi su db S) L (L + 1)) (ag (fun x y => decide ((fw (bgn X L lo hi su db S) L (L + 1)) y (y + 1) < (fw (bgn X L lo hi su db S) L (L + 1)) x (x + 1))) i) (ag (fun x y => decide ((fw (bgn X L lo hi su db S) L (L + 1)) y (y + 1) < (fw (bgn X L lo hi su db S) L (L + 1)) x (x + 1))) i + 1) < (fw (bgn X L lo hi su db S) L (L + 1)) i (i + 1) := by omega
      refine j_iload_n (pc := 49) C dX1_worstLayer_49 2 rfl ?_
      refine j_istore_n (pc := 50) C (lv' := [(0, .ref (h 0)), (1, .int (zI i)), (2, .int (zI i))]) dX1_worstLayer_50 (by decide) [1, 0, 2] rfl ?_
      refine j_iinc (pc := 51) C (lv' := [(0, .ref (h 0)), (1, .int (zI i)), (2, .int (zI (i + 1)))]) dX1_worstLayer_51 2 rfl (by decide) [1, 2, 0] rfl ?_
      refine j_goto (pc := 54) C 26 dX1_worstLayer_54 (by decide) ?_
      exact J.cast (hk_26 trivial) (by rfl) (by first | (rw [ag_up (fun x y => decide ((fw (bgn X L lo hi su db S) L (L + 1)) y (y + 1) < (fw (bgn X L lo hi su db S) L (L + 1)) x (x + 1))) i h0_26, if_neg (fun q => e2 (of_decide_eq_true q))]) | (rw [ag_up (fun x y => decide ((fw (bgn X L lo hi su db S) L (L + 1)) y (y + 1) < (fw (bgn X L lo hi su db S) L (L + 1)) x (x + 1))) i h0_26, if_pos (decide_eq_true e2)])) rfl
  · intro hI_26
    try dsimp only at hI_26 ⊢
    refine j_iload_n (pc := 26) C dX1_worstLayer_26 2 rfl ?_
    refine j_aload_n (pc := 27) C dX1_worstLayer_27 0 rfl ?_
    refine j_get (pc := 28) C (ref := "GrainSiloModel") (T := TX1) (N := 16) hin 0 rfl rfl 1 (by decide) (C.w 2 rfl) rfl rfl dX1_worstLayer_28 ?_
    refine j_icmp_ge (pc := 31) C 57 dX1_worstLayer_31 (by decide) ⟨by omega, by omega⟩ ⟨by omega, by omega⟩ (fun c_31 => ?_) (fun c_31 => absurd c_31 (by omega))
    refine j_iload_n (pc := 57) C dX1_worstLayer_57 1 rfl ?_
    exact j_iret (pc := 58) C hr dX1_worstLayer_58 (by rfl) (by rfl) (by decide) (by decide)
set_option maxHeartbeats 4000000 in
set_option maxRecDepth 100000 in
theorem kX1_worstLayer_no1 (l : Launch) (D : va_G) (h : Nat → Nat) (c1 c2 c3 : ClassId) (th L : Int) (K Dm : Int → Int) (S : Int) (lo hi su db : Int → Int) (dy li so sp : Int) (X : Int → Int → Int) (ke se : Int → Int) (hL : L = 0) : cI l yX1_worstLayer wsX1_worstLayer ({ frames := 1, cells := 0, slots := 0, locals := 21 }) D (tyS c1 c2 c3) [.ref (h 0)] (wN h c1 th L K Dm S lo hi su db dy li so sp X ke se) (wN h c1 1 L K Dm S lo hi su db dy li so sp X ke se) (zI 0) 0 0 := by
  refine cI.of (cc := cX1_worstLayer) (maxL := 3) (ret := .int) (by decide) rfl (lv := [(0, .ref (h 0))]) [0] rfl (Nat.le_of_ble_eq_true rfl) ?_
  intro p e s m args below meth c A C hr
  have C : GC p s m args meth c cX1_worstLayer 3 RX1 wsX1_worstLayer D (tyS c1 c2 c3) A := C
  have hin : ∀ w ∈ wsX10, w ∈ wsX1_worstLayer := fun _ h => List.mem_cons_of_mem _ (List.mem_append_right _ h)
  refine j_aload_n (pc := 0) C dX1_worstLayer_0 0 rfl ?_
  refine j_iconst (pc := 1) C dX1_worstLayer_1 ?_
  refine j_put (pc := 2) C (ref := "GrainSiloModel") (T := TX1) (N := 16) (ws' := wN h c1 0 L K Dm S lo hi su db dy li so sp X ke se) hin tyX1 tyX1_ok nmX1 0 rfl rfl 0 (by decide) (C.w 1 rfl) rfl rfl (by decide +kernel) (Nat.le_of_ble_eq_true rfl) rfl dX1_worstLayer_2 ?_
  refine j_aload_n (pc := 5) C dX1_worstLayer_5 0 rfl ?_
  refine j_get (pc := 6) C (ref := "GrainSiloModel") (T := TX1) (N := 16) hin 0 rfl rfl 1 (by decide) (C.w 2 rfl) rfl rfl dX1_worstLayer_6 ?_
  refine j_if_ne (pc := 9) C 18 dX1_worstLayer_9 (by decide) ⟨by omega, by omega⟩ (fun c_9 => absurd c_9 (by omega)) (fun c_9 => ?_)
  refine j_aload_n (pc := 12) C dX1_worstLayer_12 0 rfl ?_
  refine j_iconst (pc := 13) C dX1_worstLayer_13 ?_
  refine j_callI (pc := 14) C (As := [.int (zI 1)]) (rest := []) (kX1_no l D h c1 c2 c3 0 L K Dm S lo hi su db dy li so sp X ke se 1 ) (cwV 1 C.2.2.2.2.1 gX1_worstLayer_X1_no rfl rfl rfl (by decide +kernel) ⟨Nat.le_of_ble_eq_true rfl, Nat.le_of_ble_eq_true rfl⟩) 0 (ci := 1) rfl rfl rfl dX1_worstLayer_14 rfl rfl (Nat.le_of_ble_eq_true rfl) (by decide) ?_
  exact j_iret (pc := 17) C hr dX1_worstLayer_17 (by rfl) (by rfl) (by decide) (by decide)
set_option maxHeartbeats 4000000 in
set_option maxRecDepth 100000 in
theorem kX1_doubt (l : Launch) (D : va_G) (h : Nat → Nat) (c1 c2 c3 : ClassId) (th L : Int) (K Dm : Int → Int) (S : Int) (lo hi su db : Int → Int) (dy li so sp : Int) (X : Int → Int → Int) (ke se : Int → Int) (hok : okS Dm L lo hi su db S) : cI l yX1_doubt wsX1_doubt ({ frames := 5, cells := 0, slots := 0, locals := 110 }) D (tyS c1 c2 c3) [.ref (h 0)] (wN h c1 th L K Dm S lo hi su db dy li so sp X ke se) (wN h c1 0 L K Dm S lo hi su db dy li so sp (fw (bgn X L lo hi su db S) L (L + 1)) ke se) (zI ((dNow (fw (bgn X L lo hi su db S) L (L + 1)) L))) 0 0 := by
  refine cI.of (cc := cX1_doubt) (maxL := 1) (ret := .int) (by decide) rfl (lv := [(0, .ref (h 0))]) [0] rfl (Nat.le_of_ble_eq_true rfl) ?_
  intro p e s m args below meth c A C hr
  have C : GC p s m args meth c cX1_doubt 1 RX1 wsX1_doubt D (tyS c1 c2 c3) A := C
  have hin : ∀ w ∈ wsX10, w ∈ wsX1_doubt := fun _ h => List.mem_cons_of_mem _ (List.mem_append_right _ h)
  obtain ⟨⟨hL0, hL⟩, ⟨hS0, hS⟩, hf, hs⟩ := id hok
  have w := Fok_fw (Fok_bgn hok X) (L + 1) (by omega) (Int.le_refl _)
  have hB := Fok_B hL hf w
  refine j_aload_n (pc := 0) C dX1_doubt_0 0 rfl ?_
  refine j_callV (pc := 1) C (As := []) (rest := []) (kX1_reckon l D h c1 c2 c3 th L K Dm S lo hi su db dy li so sp X ke se  hok) (cwV 0 C.2.2.2.2.1 gX1_doubt_X1_reckon rfl rfl rfl (by decide +kernel) ⟨Nat.le_of_ble_eq_true rfl, Nat.le_of_ble_eq_true rfl⟩) 0 (ci := 1) rfl rfl rfl dX1_doubt_1 rfl rfl (Nat.le_of_ble_eq_true rfl) (by decide) ?_
  refine j_aload_n (pc := 4) C dX1_doubt_4 0 rfl ?_
  refine j_aload_n (pc := 5) C dX1_doubt_5 0 rfl ?_
  refine j_callI (pc := 6) C (As := []) (rest := [.ref (h 0)]) (kX1_allDoubt l D h c1 c2 c3 th L K Dm S lo hi su db dy li so sp (fw (bgn X L lo hi su db S) L (L + 1)) ke se  (by omega) (by omega)) (cwV 0 C.2.2.2.2.1 gX1_doubt_X1_allDoubt rfl rfl rfl (by decide +kernel) ⟨Nat.le_of_ble_eq_true rfl, Nat.le_of_ble_eq_true rfl⟩) 0 (ci := 1) rfl rfl rfl dX1_doubt_6 rfl rfl (Nat.le_of_ble_eq_true rfl) (by decide) ?_
  refine j_callI (pc := 9) C (As := [.int (zI (dNow (fw (bgn X L lo hi su db S) L (L + 1)) L))]) (rest := []) (kX1_ok l D h c1 c2 c3 th L K Dm S lo hi su db dy li so sp (fw (bgn X L lo hi su db S) L (L + 1)) ke se (dNow (fw (bgn X L lo hi su db S) L (L + 1)) L) ) (cwV 1 C.2.2.2.2.1 gX1_doubt_X1_ok rfl rfl rfl (by decide +kernel) ⟨Nat.le_of_ble_eq_true rfl, Nat.le_of_ble_eq_true rfl⟩) 0 (ci := 1) rfl rfl rfl dX1_doubt_9 rfl rfl (Nat.le_of_ble_eq_true rfl) (by decide) ?_
  exact j_iret (pc := 12) C hr dX1_doubt_12 (by rfl) (by rfl) (by decide) (by decide)
set_option maxHeartbeats 4000000 in
set_option maxRecDepth 100000 in
theorem kX1_doubtBehind (l : Launch) (D : va_G) (h : Nat → Nat) (c1 c2 c3 : ClassId) (th L : Int) (K Dm : Int → Int) (S : Int) (lo hi su db : Int → Int) (dy li so sp : Int) (X : Int → Int → Int) (ke se : Int → Int) (a b : Int) (hok : okS Dm L lo hi su db S) (h0 : 0 ≤ a) (h1 : a ≤ b) (h2 : b < L) : cI l yX1_doubtBehind wsX1_doubtBehind ({ frames := 5, cells := 0, slots := 0, locals := 112 }) D (tyS c1 c2 c3) [.ref (h 0), .int (zI a), .int (zI b)] (wN h c1 th L K Dm S lo hi su db dy li so sp X ke se) (wN h c1 0 L K Dm S lo hi su db dy li so sp (bhd X Dm L lo hi su db S a b) ke se) (zI (dNow (bhd X Dm L lo hi su db S a b) L)) 0 0 := by
  refine cI.of (cc := cX1_doubtBehind) (maxL := 3) (ret := .int) (by decide) rfl (lv := [(0, .ref (h 0)), (1, .int (zI a)), (2, .int (zI b))]) [0, 1, 2] rfl (Nat.le_of_ble_eq_true rfl) ?_
  intro p e s m args below meth c A C hr
  have C : GC p s m args meth c cX1_doubtBehind 3 RX1 wsX1_doubtBehind D (tyS c1 c2 c3) A := C
  have hin : ∀ w ∈ wsX10, w ∈ wsX1_doubtBehind := fun _ h => List.mem_cons_of_mem _ (List.mem_append_right _ h)
  obtain ⟨⟨hL0, hL⟩, ⟨hS0, hS⟩, hf, hs⟩ := id hok
  refine j_aload_n (pc := 0) C dX1_doubtBehind_0 0 rfl ?_
  refine j_iconst (pc := 1) C dX1_doubtBehind_1 ?_
  refine j_put (pc := 2) C (ref := "GrainSiloModel") (T := TX1) (N := 16) (ws' := wN h c1 0 L K Dm S lo hi su db dy li so sp X ke se) hin tyX1 tyX1_ok nmX1 0 rfl rfl 0 (by decide) (C.w 1 rfl) rfl rfl (by decide +kernel) (Nat.le_of_ble_eq_true rfl) rfl dX1_doubtBehind_2 ?_
  refine j_aload_n (pc := 5) C dX1_doubtBehind_5 0 rfl ?_
  refine j_iload_n (pc := 6) C dX1_doubtBehind_6 1 rfl ?_
  refine j_iload_n (pc := 7) C dX1_doubtBehind_7 2 rfl ?_
  refine j_callI (pc := 8) C (As := [.int (zI a), .int (zI b)]) (rest := []) (kX1_areLayers l D h c1 c2 c3 0 L K Dm S lo hi su db dy li so sp X ke se a b (by omega) (by omega) ⟨by omega, by omega⟩ ⟨by omega, by omega⟩) (cwV 2 C.2.2.2.2.1 gX1_doubtBehind_X1_areLayers rfl rfl rfl (by decide +kernel) ⟨Nat.le_of_ble_eq_true rfl, Nat.le_of_ble_eq_true rfl⟩) 0 (ci := 1) rfl rfl rfl dX1_doubtBehind_8 rfl rfl (Nat.le_of_ble_eq_true rfl) (by decide) ?_
  refine j_if_eq (pc := 11) C 23 dX1_doubtBehind_11 (by decide) ⟨by omega, by omega⟩ (fun c_11 => absurd c_11 (by omega)) (fun c_11 => ?_)
  refine j_aload_n (pc := 14) C dX1_doubtBehind_14 0 rfl ?_
  refine j_iload_n (pc := 15) C dX1_doubtBehind_15 1 rfl ?_
  refine j_iload_n (pc := 16) C dX1_doubtBehind_16 2 rfl ?_
  refine j_callI (pc := 17) C (As := [.int (zI a), .int (zI b)]) (rest := []) (kX1_behind l D h c1 c2 c3 0 L K Dm S lo hi su db dy li so sp X ke se a b hok (by omega) (by omega) (by omega)) (cwV 2 C.2.2.2.2.1 gX1_doubtBehind_X1_behind rfl rfl rfl (by decide +kernel) ⟨Nat.le_of_ble_eq_true rfl, Nat.le_of_ble_eq_true rfl⟩) 0 (ci := 1) rfl rfl rfl dX1_doubtBehind_17 rfl rfl (Nat.le_of_ble_eq_true rfl) (by decide) ?_
  refine j_goto (pc := 20) C 28 dX1_doubtBehind_20 (by decide) ?_
  exact j_iret (pc := 28) C hr dX1_doubtBehind_28 (by rfl) (by rfl) (by decide) (by decide)
set_option maxHeartbeats 4000000 in
set_option maxRecDepth 100000 in
theorem kX1_doubtBehind_no1 (l : Launch) (D : va_G) (h : Nat → Nat) (c1 c2 c3 : ClassId) (th L : Int) (K Dm : Int → Int) (S : Int) (lo hi su db : Int → Int) (dy li so sp : Int) (X : Int → Int → Int) (ke se : Int → Int) (a b : Int) (hL0 : 0 ≤ L) (hL : L ≤ 12) (ha : zR a) (hb : zR b) (hn : ¬ (0 ≤ a ∧ a ≤ b ∧ b < L)) : cI l yX1_doubtBehind wsX1_doubtBehind ({ frames := 3, cells := 0, slots := 0, locals := 65 }) D (tyS c1 c2 c3) [.ref (h 0), .int (zI a), .int (zI b)] (wN h c1 th L K Dm S lo hi su db dy li so sp X ke se) (wN h c1 1 L K Dm S lo hi su db dy li so sp X ke se) (zI 0) 0 0 := by
  refine cI.of (cc := cX1_doubtBehind) (maxL := 3) (ret := .int) (by decide) rfl (lv := [(0, .ref (h 0)), (1, .int (zI a)), (2, .int (zI b))]) [0, 1, 2] rfl (Nat.le_of_ble_eq_true rfl) ?_
  intro p e s m args below meth c A C hr
  have C : GC p s m args meth c cX1_doubtBehind 3 RX1 wsX1_doubtBehind D (tyS c1 c2 c3) A := C
  have hin : ∀ w ∈ wsX10, w ∈ wsX1_doubtBehind := fun _ h => List.mem_cons_of_mem _ (List.mem_append_right _ h)
  obtain ⟨ha1, ha2⟩ := ha
  obtain ⟨hb1, hb2⟩ := hb
  refine j_aload_n (pc := 0) C dX1_doubtBehind_0 0 rfl ?_
  refine j_iconst (pc := 1) C dX1_doubtBehind_1 ?_
  refine j_put (pc := 2) C (ref := "GrainSiloModel") (T := TX1) (N := 16) (ws' := wN h c1 0 L K Dm S lo hi su db dy li so sp X ke se) hin tyX1 tyX1_ok nmX1 0 rfl rfl 0 (by decide) (C.w 1 rfl) rfl rfl (by decide +kernel) (Nat.le_of_ble_eq_true rfl) rfl dX1_doubtBehind_2 ?_
  refine j_aload_n (pc := 5) C dX1_doubtBehind_5 0 rfl ?_
  refine j_iload_n (pc := 6) C dX1_doubtBehind_6 1 rfl ?_
  refine j_iload_n (pc := 7) C dX1_doubtBehind_7 2 rfl ?_
  refine j_callI (pc := 8) C (As := [.int (zI a), .int (zI b)]) (rest := []) (kX1_areLayers l D h c1 c2 c3 0 L K Dm S lo hi su db dy li so sp X ke se a b (by omega) (by omega) ⟨by omega, by omega⟩ ⟨by omega, by omega⟩) (cwV 2 C.2.2.2.2.1 gX1_doubtBehind_X1_areLayers rfl rfl rfl (by decide +kernel) ⟨Nat.le_of_ble_eq_true rfl, Nat.le_of_ble_eq_true rfl⟩) 0 (ci := 1) rfl rfl rfl dX1_doubtBehind_8 rfl rfl (Nat.le_of_ble_eq_true rfl) (by decide) ?_
  refine j_if_eq (pc := 11) C 23 dX1_doubtBehind_11 (by decide) ⟨by omega, by omega⟩ (fun c_11 => ?_) (fun c_11 => absurd c_11 (by omega))
  refine j_aload_n (pc := 23) C dX1_doubtBehind_23 0 rfl ?_
  refine j_iconst (pc := 24) C dX1_doubtBehind_24 ?_
  refine j_callI (pc := 25) C (As := [.int (zI 1)]) (rest := []) (kX1_no l D h c1 c2 c3 0 L K Dm S lo hi su db dy li so sp X ke se 1 ) (cwV 1 C.2.2.2.2.1 gX1_doubtBehind_X1_no rfl rfl rfl (by decide +kernel) ⟨Nat.le_of_ble_eq_true rfl, Nat.le_of_ble_eq_true rfl⟩) 0 (ci := 1) rfl rfl rfl dX1_doubtBehind_25 rfl rfl (Nat.le_of_ble_eq_true rfl) (by decide) ?_
  exact j_iret (pc := 28) C hr dX1_doubtBehind_28 (by rfl) (by rfl) (by decide) (by decide)
set_option maxHeartbeats 4000000 in
set_option maxRecDepth 100000 in
theorem kX1_bestToLookAt (l : Launch) (D : va_G) (h : Nat → Nat) (c1 c2 c3 : ClassId) (th L : Int) (K Dm : Int → Int) (S : Int) (lo hi su db : Int → Int) (dy li so sp : Int) (X : Int → Int → Int) (ke se : Int → Int) (hok : okS Dm L lo hi su db S) (h0 : 0 < L) (hV : ∀ a, 0 ≤ a → a < L → -100000 ≤ dNow (bhd X Dm L lo hi su db S a a) L ∧ dNow (bhd X Dm L lo hi su db S a a) L ≤ 100000) : cI l yX1_bestToLookAt wsX1_bestToLookAt ({ frames := 5, cells := 0, slots := 0, locals := 112 }) D (tyS c1 c2 c3) [.ref (h 0)] (wN h c1 th L K Dm S lo hi su db dy li so sp X ke se) (wN h c1 0 L K Dm S lo hi su db dy li so sp (bb X Dm L lo hi su db S L) ke se) (zI (ag (fun x y => decide (dNow (bhd X Dm L lo hi su db S x x) L < dNow (bhd X Dm L lo hi su db S y y) L)) L)) 0 0 := by
  refine cI.of (cc := cX1_bestToLookAt) (maxL := 5) (ret := .int) (by decide) rfl (lv := [(0, .ref (h 0))]) [0] rfl (Nat.le_of_ble_eq_true rfl) ?_
  intro p e s m args below meth c A C hr
  have C : GC p s m args meth c cX1_bestToLookAt 5 RX1 wsX1_bestToLookAt D (tyS c1 c2 c3) A := C
  have hin : ∀ w ∈ wsX10, w ∈ wsX1_bestToLookAt := fun _ h => List.mem_cons_of_mem _ (List.mem_append_right _ h)
  obtain ⟨⟨hL0, hL⟩, ⟨hS0, hS⟩, hf, hs⟩ := id hok
  refine j_aload_n (pc := 0) C dX1_bestToLookAt_0 0 rfl ?_
  refine j_iconst (pc := 1) C dX1_bestToLookAt_1 ?_
  refine j_put (pc := 2) C (ref := "GrainSiloModel") (T := TX1) (N := 16) (ws' := wN h c1 0 L K Dm S lo hi su db dy li so sp X ke se) hin tyX1 tyX1_ok nmX1 0 rfl rfl 0 (by decide) (C.w 1 rfl) rfl rfl (by decide +kernel) (Nat.le_of_ble_eq_true rfl) rfl dX1_bestToLookAt_2 ?_
  refine j_aload_n (pc := 5) C dX1_bestToLookAt_5 0 rfl ?_
  refine j_get (pc := 6) C (ref := "GrainSiloModel") (T := TX1) (N := 16) hin 0 rfl rfl 1 (by decide) (C.w 2 rfl) rfl rfl dX1_bestToLookAt_6 ?_
  refine j_if_ne (pc := 9) C 18 dX1_bestToLookAt_9 (by decide) ⟨by omega, by omega⟩ (fun c_9 => ?_) (fun c_9 => absurd c_9 (by omega))
  refine j_iconst (pc := 18) C dX1_bestToLookAt_18 ?_
  refine j_istore_n (pc := 19) C (lv' := [(0, .ref (h 0)), (1, .int (zI ((-1))))]) dX1_bestToLookAt_19 (by decide) [1, 0] rfl ?_
  refine j_ldc (pc := 20) C (z := 1000000) (C.w 3 rfl) (by decide +kernel) dX1_bestToLookAt_20 ?_
  refine j_istore_n (pc := 22) C (lv' := [(0, .ref (h 0)), (1, .int (zI ((-1)))), (2, .int (zI 1000000))]) dX1_bestToLookAt_22 (by decide) [1, 2, 0] rfl ?_
  refine j_iconst (pc := 23) C dX1_bestToLookAt_23 ?_
  refine j_istore_n (pc := 24) C (lv' := [(0, .ref (h 0)), (1, .int (zI ((-1)))), (2, .int (zI 1000000)), (3, .int (zI 0))]) dX1_bestToLookAt_24 (by decide) [1, 2, 3, 0] rfl ?_
  refine J.cast (ws' := wN h c1 0 L K Dm S lo hi su db dy li so sp (bb X Dm L lo hi su db S 0) ke se) (lv' := [(0, .ref (h 0)), (1, .int (zI (if 0 = 0 then -1 else ag (fun x y => decide (dNow (bhd X Dm L lo hi su db S x x) L < dNow (bhd X Dm L lo hi su db S y y) L)) 0))), (2, .int (zI (if 0 = 0 then 1000000 else dNow (bhd X Dm L lo hi su db S (ag (fun x y => decide (dNow (bhd X Dm L lo hi su db S x x) L < dNow (bhd X Dm L lo hi su db S y y) L)) 0) (ag (fun x y => decide (dNow (bhd X Dm L lo hi su db S x x) L < dNow (bhd X Dm L lo hi su db S y y) L)) 0)) L))), (3, .int (zI 0))]) ?_ (by rfl) (by rfl) rfl
  refine j_up (fun i : Int => wN h c1 0 L K Dm S lo hi su db dy li so sp (bb X Dm L lo hi su db S i) ke se) (fun i : Int => [(0, .ref (h 0)), (1, .int (zI (if i = 0 then -1 else ag (fun x y => decide (dNow (bhd X Dm L lo hi su db S x x) L < dNow (bhd X Dm L lo hi su db S y y) L)) i))), (2, .int (zI (if i = 0 then 1000000 else dNow (bhd X Dm L lo hi su db S (ag (fun x y => decide (dNow (bhd X Dm L lo hi su db S x x) L < dNow (bhd X Dm L lo hi su db S y y) L)) i) (ag (fun x y => decide (dNow (bhd X Dm L lo hi su db S x x) L < dNow (bhd X Dm L lo hi su db S y y) L)) i)) L))), (3, .int (zI i))]) (fun i : Int => True) 0 L (by omega) trivial ?_ ?_
  · intro i h0_25 h1_25 hI_25 hk_25
    try dsimp only at hI_25 hk_25 ⊢
    have ev : dNow (bhd (bb X Dm L lo hi su db S i) Dm L lo hi su db S i i) L = dNow (bhd X Dm L lo hi su db S i i) L := eqL_dNow (eqL_bhd hok _ _ i i h0_25 (Int.le_refl _) h1_25)
    have q1 := hV i h0_25 h1_25
    have eZ : i = 0 ∨ (1 ≤ i ∧ ¬ i = 0) := by omega
    have q2 : 1 ≤ i → -100000 ≤ dNow (bhd X Dm L lo hi su db S (ag (fun x y => decide (dNow (bhd X Dm L lo hi su db S x x) L < dNow (bhd X Dm L lo hi su db S y y) L)) i) (ag (fun x y => decide (dNow (bhd X Dm L lo hi su db S x x) L < dNow (bhd X Dm L lo hi su db S y y) L)) i)) L ∧ dNow (bhd X Dm L lo hi su db S (ag (fun x y => decide (dNow (bhd X Dm L lo hi su db S x x) L < dNow (bhd X Dm L lo hi su db S y y) L)) i) (ag (fun x y => decide (dNow (bhd X Dm L lo hi su db S x x) L < dNow (bhd X Dm L lo hi su db S y y) L)) i)) L ≤ 100000 := fun hi1 => by have g := ag_in (fun x y => decide (dNow (bhd X Dm L lo hi su db S x x) L < dNow (bhd X Dm L lo hi su db S y y) L)) i hi1; exact hV _ (by omega) (by omega)
    have e1 : (i = 0 ∧ (if i = 0 then 1000000 else dNow (bhd X Dm L lo hi su db S (ag (fun x y => decide (dNow (bhd X Dm L lo hi su db S x x) L < dNow (bhd X Dm L lo hi su db S y y) L)) i) (ag (fun x y => decide (dNow (bhd X Dm L lo hi su db S x x) L < dNow (bhd X Dm L lo hi su db S y y) L)) i)) L) = 1000000) ∨ (1 ≤ i ∧ (if i = 0 then 1000000 else dNow (bhd X Dm L lo hi su db S (ag (fun x y => decide (dNow (bhd X Dm L lo hi su db S x x) L < dNow (bhd X Dm L lo hi su db S y y) L)) i) (ag (fun x y => decide (dNow (bhd X Dm L lo hi su db S x x) L < dNow (bhd X Dm L lo hi su db S y y) L)) i)) L) = dNow (bhd X Dm L lo hi su db S (ag (fun x y => decide (dNow (bhd X Dm L lo hi su db S x x) L < dNow (bhd X Dm L lo hi su db S y y) L)) i) (ag (fun x y => decide (dNow (bhd X Dm L lo hi su db S x x) L < dNow (bhd X Dm L lo hi su db S y y) L)) i)) L) := by rcases eZ with q | ⟨q, q3⟩; exact Or.inl ⟨q, if_pos q⟩; exact Or.inr ⟨q, if_neg q3⟩
    refine j_iload_n (pc := 25) C dX1_bestToLookAt_25 3 rfl ?_
    refine j_aload_n (pc := 26) C dX1_bestToLookAt_26 0 rfl ?_
    refine j_get (pc := 27) C (ref := "GrainSiloModel") (T := TX1) (N := 16) hin 0 rfl rfl 1 (by decide) (C.w 2 rfl) rfl rfl dX1_bestToLookAt_27 ?_
    refine j_icmp_ge (pc := 30) C 61 dX1_bestToLookAt_30 (by decide) ⟨by omega, by omega⟩ ⟨by omega, by omega⟩ (fun c_30 => absurd c_30 (by omega)) (fun c_30 => ?_)
    refine j_aload_n (pc := 33) C dX1_bestToLookAt_33 0 rfl ?_
    refine j_iload_n (pc := 34) C dX1_bestToLookAt_34 3 rfl ?_
    refine j_iload_n (pc := 35) C dX1_bestToLookAt_35 3 rfl ?_
    refine j_callI (pc := 36) C (As := [.int (zI i), .int (zI i)]) (rest := []) (kX1_behind l D h c1 c2 c3 0 L K Dm S lo hi su db dy li so sp (bb X Dm L lo hi su db S i) ke se i i hok (by omega) (by omega) (by omega)) (cwV 2 C.2.2.2.2.1 gX1_bestToLookAt_X1_behind rfl rfl rfl (by decide +kernel) ⟨Nat.le_of_ble_eq_true rfl, Nat.le_of_ble_eq_true rfl⟩) 0 (ci := 1) rfl rfl rfl dX1_bestToLookAt_36 rfl rfl (Nat.le_of_ble_eq_true rfl) (by decide) ?_
    refine j_istore (pc := 39) C (lv' := [(0, .ref (h 0)), (1, .int (zI (if i = 0 then -1 else ag (fun x y => decide (dNow (bhd X Dm L lo hi su db S x x) L < dNow (bhd X Dm L lo hi su db S y y) L)) i))), (2, .int (zI (if i = 0 then 1000000 else dNow (bhd X Dm L lo hi su db S (ag (fun x y => decide (dNow (bhd X Dm L lo hi su db S x x) L < dNow (bhd X Dm L lo hi su db S y y) L)) i) (ag (fun x y => decide (dNow (bhd X Dm L lo hi su db S x x) L < dNow (bhd X Dm L lo hi su db S y y) L)) i)) L))), (3, .int (zI i)), (4, .int (zI (dNow (bhd (bb X Dm L lo hi su db S i) Dm L lo hi su db S i i) L)))]) dX1_bestToLookAt_39 (by decide) [1, 2, 3, 4, 0] rfl ?_
    refine j_iload (pc := 41) C dX1_bestToLookAt_41 4 rfl ?_
    refine j_iload_n (pc := 43) C dX1_bestToLookAt_43 2 rfl ?_
    refine j_icmp_lt (pc := 44) C 50 dX1_bestToLookAt_44 (by decide) ⟨by omega, by omega⟩ ⟨by omega, by omega⟩ (fun c_44 => ?_) (fun c_44 => ?_)
    · skip
      have e2 : 1 ≤ i → dNow (bhd X Dm L lo hi su db S i i) L < dNow (bhd X Dm L lo hi su db S (ag (fun x y => decide (dNow (bhd X Dm L lo hi su db S x x) L < dNow (bhd X Dm L lo hi su db S y y) L)) i) (ag (fun x y => decide (dNow (bhd X Dm L lo hi su db S x x) L < dNow (bhd X Dm L lo hi su db S y y) L)) i)) L := by omega
      refine j_iload_n (pc := 50) C dX1_bestToLookAt_50 3 rfl ?_
      refine j_istore_n (pc := 51) C (lv' := [(0, .ref (h 0)), (1, .int (zI i)), (2, .int (zI (if i = 0 then 1000000 else dNow (bhd X Dm L lo hi su db S (ag (fun x y => decide (dNow (bhd X Dm L lo hi su db S x x) L < dNow (bhd X Dm L lo hi su db S y y) L)) i) (ag (fun x y => decide (dNow (bhd X Dm L lo hi su db S x x) L < dNow (bhd X Dm L lo hi su db S y y) L)) i)) L))), (3, .int (zI i)), (4, .int (zI (dNow (bhd (bb X Dm L lo hi su db S i) Dm L lo hi su db S i i) L)))]) dX1_bestToLookAt_51 (by decide) [1, 0, 2, 3, 4] rfl ?_
      refine j_iload (pc := 52) C dX1_bestToLookAt_52 4 rfl ?_
      refine j_istore_n (pc := 54) C (lv' := [(0, .ref (h 0)), (1, .int (zI i)), (2, .int (zI (dNow (bhd (bb X Dm L lo hi su db S i) Dm L lo hi su db S i i) L))), (3, .int (zI i)), (4, .int (zI (dNow (bhd (bb X Dm L lo hi su db S i) Dm L lo hi su db S i i) L)))]) dX1_bestToLookAt_54 (by decide) [1, 2, 0, 3, 4] rfl ?_
      refine j_iinc (pc := 55) C (lv' := [(0, .ref (h 0)), (1, .int (zI i)), (2, .int (zI (dNow (bhd (bb X Dm L lo hi su db S i) Dm L lo hi su db S i i) L))), (3, .int (zI (i + 1))), (4, .int (zI (dNow (bhd (bb X Dm L lo hi su db S i) Dm L lo hi su db S i i) L)))]) dX1_bestToLookAt_55 3 rfl (by decide) [1, 2, 3, 0, 4] rfl ?_
      refine j_goto (pc := 58) C 25 dX1_bestToLookAt_58 (by decide) ?_
      refine J.pick (lv' := [(0, .ref (h 0)), (1, .int (zI i)), (2, .int (zI (dNow (bhd (bb X Dm L lo hi su db S i) Dm L lo hi su db S i i) L))), (3, .int (zI (i + 1)))]) [0, 1, 2, 3] rfl ?_
      exact J.cast (hk_25 trivial) (by rw [bb_up _ _ _ _ _ _ _ _ i h0_25]) (by (rcases eZ with q | ⟨q, q3⟩; (subst q; first | exact absurd e9 (by omega) | (rw [ev]; rfl)); (rw [if_neg (show ¬ i + 1 = 0 by omega), if_neg (show ¬ i + 1 = 0 by omega)]; first | rw [ag_up (fun x y => decide (dNow (bhd X Dm L lo hi su db S x x) L < dNow (bhd X Dm L lo hi su db S y y) L)) i q, if_pos (decide_eq_true (e2 q)), ev] | rw [ag_up (fun x y => decide (dNow (bhd X Dm L lo hi su db S x x) L < dNow (bhd X Dm L lo hi su db S y y) L)) i q, if_neg (fun q4 => e3 q (of_decide_eq_true q4)), if_neg q3, if_neg q3]))) rfl
    · skip
      have e3 : 1 ≤ i → ¬ dNow (bhd X Dm L lo hi su db S i i) L < dNow (bhd X Dm L lo hi su db S (ag (fun x y => decide (dNow (bhd X Dm L lo hi su db S x x) L < dNow (bhd X Dm L lo hi su db S y y) L)) i) (ag (fun x y => decide (dNow (bhd X Dm L lo hi su db S x x) L < dNow (bhd X Dm L lo hi su db S y y) L)) i)) L := by omega
      have e9 : ¬ i = 0 := by omega
      refine j_goto (pc := 47) C 55 dX1_bestToLookAt_47 (by decide) ?_
      refine j_iinc (pc := 55) C (lv' := [(0, .ref (h 0)), (1, .int (zI (if i = 0 then -1 else ag (fun x y => decide (dNow (bhd X Dm L lo hi su db S x x) L < dNow (bhd X Dm L lo hi su db S y y) L)) i))), (2, .int (zI (if i = 0 then 1000000 else dNow (bhd X Dm L lo hi su db S (ag (fun x y => decide (dNow (bhd X Dm L lo hi su db S x x) L < dNow (bhd X Dm L lo hi su db S y y) L)) i) (ag (fun x y => decide (dNow (bhd X Dm L lo hi su db S x x) L < dNow (bhd X Dm L lo hi su db S y y) L)) i)) L))), (3, .int (zI (i + 1))), (4, .int (zI (dNow (bhd (bb X Dm L lo hi su db S i) Dm L lo hi su db S i i) L)))]) dX1_bestToLookAt_55 3 rfl (by decide) [1, 2, 3, 0, 4] rfl ?_
      refine j_goto (pc := 58) C 25 dX1_bestToLookAt_58 (by decide) ?_
      refine J.pick (lv' := [(0, .ref (h 0)), (1, .int (zI (if i = 0 then -1 else ag (fun x y => decide (dNow (bhd X Dm L lo hi su db S x x) L < dNow (bhd X Dm L lo hi su db S y y) L)) i))), (2, .int (zI (if i = 0 then 1000000 else dNow (bhd X Dm L lo hi su db S (ag (fun x y => decide (dNow (bhd X Dm L lo hi su db S x x) L < dNow (bhd X Dm L lo hi su db S y y) L)) i) (ag (fun x y => decide (dNow (bhd X Dm L lo hi su db S x x) L < dNow (bhd X Dm L lo hi su db S y y) L)) i)) L))), (3, .int (zI (i + 1)))]) [0, 1, 2, 3] rfl ?_
      exact J.cast (hk_25 trivial) (by rw [bb_up _ _ _ _ _ _ _ _ i h0_25]) (by (rcases eZ with q | ⟨q, q3⟩; (subst q; first | exact absurd e9 (by omega) | (rw [ev]; rfl)); (rw [if_neg (show ¬ i + 1 = 0 by omega), if_neg (show ¬ i + 1 = 0 by omega)]; first | rw [ag_up (fun x y => decide (dNow (bhd X Dm L lo hi su db S x x) L < dNow (bhd X Dm L lo hi su db S y y) L)) i q, if_pos (decide_eq_true (e2 q)), ev] | rw [ag_up (fun x y => decide (dNow (bhd X Dm L lo hi su db S x x) L < dNow (bhd X Dm L lo hi su db S y y) L)) i q, if_neg (fun q4 => e3 q (of_decide_eq_true q4)), if_neg q3, if_neg q3]))) rfl
  · intro hI_25
    try dsimp only at hI_25 ⊢
    refine j_iload_n (pc := 25) C dX1_bestToLookAt_25 3 rfl ?_
    refine j_aload_n (pc := 26) C dX1_bestToLookAt_26 0 rfl ?_
    refine j_get (pc := 27) C (ref := "GrainSiloModel") (T := TX1) (N := 16) hin 0 rfl rfl 1 (by decide) (C.w 2 rfl) rfl rfl dX1_bestToLookAt_27 ?_
    refine j_icmp_ge (pc := 30) C 61 dX1_bestToLookAt_30 (by decide) ⟨by omega, by omega⟩ ⟨by omega, by omega⟩ (fun c_30 => ?_) (fun c_30 => absurd c_30 (by omega))
    refine j_iload_n (pc := 61) C dX1_bestToLookAt_61 1 rfl ?_
    exact j_iret (pc := 62) C hr dX1_bestToLookAt_62 (by rw [if_neg (by omega)]) (by rfl) (by decide) (by decide)
set_option maxHeartbeats 4000000 in
set_option maxRecDepth 100000 in
theorem kX1_bestToLookAt_no1 (l : Launch) (D : va_G) (h : Nat → Nat) (c1 c2 c3 : ClassId) (th L : Int) (K Dm : Int → Int) (S : Int) (lo hi su db : Int → Int) (dy li so sp : Int) (X : Int → Int → Int) (ke se : Int → Int) (hL : L = 0) : cI l yX1_bestToLookAt wsX1_bestToLookAt ({ frames := 1, cells := 0, slots := 0, locals := 21 }) D (tyS c1 c2 c3) [.ref (h 0)] (wN h c1 th L K Dm S lo hi su db dy li so sp X ke se) (wN h c1 1 L K Dm S lo hi su db dy li so sp X ke se) (zI 0) 0 0 := by
  refine cI.of (cc := cX1_bestToLookAt) (maxL := 5) (ret := .int) (by decide) rfl (lv := [(0, .ref (h 0))]) [0] rfl (Nat.le_of_ble_eq_true rfl) ?_
  intro p e s m args below meth c A C hr
  have C : GC p s m args meth c cX1_bestToLookAt 5 RX1 wsX1_bestToLookAt D (tyS c1 c2 c3) A := C
  have hin : ∀ w ∈ wsX10, w ∈ wsX1_bestToLookAt := fun _ h => List.mem_cons_of_mem _ (List.mem_append_right _ h)
  refine j_aload_n (pc := 0) C dX1_bestToLookAt_0 0 rfl ?_
  refine j_iconst (pc := 1) C dX1_bestToLookAt_1 ?_
  refine j_put (pc := 2) C (ref := "GrainSiloModel") (T := TX1) (N := 16) (ws' := wN h c1 0 L K Dm S lo hi su db dy li so sp X ke se) hin tyX1 tyX1_ok nmX1 0 rfl rfl 0 (by decide) (C.w 1 rfl) rfl rfl (by decide +kernel) (Nat.le_of_ble_eq_true rfl) rfl dX1_bestToLookAt_2 ?_
  refine j_aload_n (pc := 5) C dX1_bestToLookAt_5 0 rfl ?_
  refine j_get (pc := 6) C (ref := "GrainSiloModel") (T := TX1) (N := 16) hin 0 rfl rfl 1 (by decide) (C.w 2 rfl) rfl rfl dX1_bestToLookAt_6 ?_
  refine j_if_ne (pc := 9) C 18 dX1_bestToLookAt_9 (by decide) ⟨by omega, by omega⟩ (fun c_9 => absurd c_9 (by omega)) (fun c_9 => ?_)
  refine j_aload_n (pc := 12) C dX1_bestToLookAt_12 0 rfl ?_
  refine j_iconst (pc := 13) C dX1_bestToLookAt_13 ?_
  refine j_callI (pc := 14) C (As := [.int (zI 1)]) (rest := []) (kX1_no l D h c1 c2 c3 0 L K Dm S lo hi su db dy li so sp X ke se 1 ) (cwV 1 C.2.2.2.2.1 gX1_bestToLookAt_X1_no rfl rfl rfl (by decide +kernel) ⟨Nat.le_of_ble_eq_true rfl, Nat.le_of_ble_eq_true rfl⟩) 0 (ci := 1) rfl rfl rfl dX1_bestToLookAt_14 rfl rfl (Nat.le_of_ble_eq_true rfl) (by decide) ?_
  exact j_iret (pc := 17) C hr dX1_bestToLookAt_17 (by rfl) (by rfl) (by decide) (by decide)
set_option maxHeartbeats 4000000 in
set_option maxRecDepth 100000 in
theorem kX1_dampnessIn (l : Launch) (D : va_G) (h : Nat → Nat) (c1 c2 c3 : ClassId) (th L : Int) (K Dm : Int → Int) (S : Int) (lo hi su db : Int → Int) (dy li so sp : Int) (X : Int → Int → Int) (ke se : Int → Int) (a b : Int) (hL0 : 0 ≤ L) (hL : L ≤ 12) (hf : ∀ j, 0 ≤ j → j < L → 0 ≤ Dm j ∧ Dm j ≤ 40) (h0 : 0 ≤ a) (h1 : a < L) (h2 : 1 ≤ b) (h3 : b ≤ 50) : cI l yX1_dampnessIn wsX1_dampnessIn ({ frames := 4, cells := 0, slots := 0, locals := 88 }) D (tyS c1 c2 c3) [.ref (h 0), .int (zI a), .int (zI b)] (wN h c1 th L K Dm S lo hi su db dy li so sp X ke se) (wN h c1 0 L K (mix (mix Dm ke 12) (dayF Dm L b) 12) S lo hi su db dy li so sp X (mix Dm ke 12) (dayT Dm L se b)) (zI ((dayF Dm L b) a)) 0 0 := by
  refine cI.of (cc := cX1_dampnessIn) (maxL := 4) (ret := .int) (by decide) rfl (lv := [(0, .ref (h 0)), (1, .int (zI a)), (2, .int (zI b))]) [0, 1, 2] rfl (Nat.le_of_ble_eq_true rfl) ?_
  intro p e s m args below meth c A C hr
  have C : GC p s m args meth c cX1_dampnessIn 4 RX1 wsX1_dampnessIn D (tyS c1 c2 c3) A := C
  have hin : ∀ w ∈ wsX10, w ∈ wsX1_dampnessIn := fun _ h => List.mem_cons_of_mem _ (List.mem_append_right _ h)
  refine j_aload_n (pc := 0) C dX1_dampnessIn_0 0 rfl ?_
  refine j_iconst (pc := 1) C dX1_dampnessIn_1 ?_
  refine j_put (pc := 2) C (ref := "GrainSiloModel") (T := TX1) (N := 16) (ws' := wN h c1 0 L K Dm S lo hi su db dy li so sp X ke se) hin tyX1 tyX1_ok nmX1 0 rfl rfl 0 (by decide) (C.w 1 rfl) rfl rfl (by decide +kernel) (Nat.le_of_ble_eq_true rfl) rfl dX1_dampnessIn_2 ?_
  refine j_aload_n (pc := 5) C dX1_dampnessIn_5 0 rfl ?_
  refine j_iload_n (pc := 6) C dX1_dampnessIn_6 1 rfl ?_
  refine j_callI (pc := 7) C (As := [.int (zI a)]) (rest := []) (kX1_isLayer l D h c1 c2 c3 0 L K Dm S lo hi su db dy li so sp X ke se a (by omega) (by omega) ⟨by omega, by omega⟩) (cwV 1 C.2.2.2.2.1 gX1_dampnessIn_X1_isLayer rfl rfl rfl (by decide +kernel) ⟨Nat.le_of_ble_eq_true rfl, Nat.le_of_ble_eq_true rfl⟩) 0 (ci := 1) rfl rfl rfl dX1_dampnessIn_7 rfl rfl (Nat.le_of_ble_eq_true rfl) (by decide) ?_
  refine j_if_ne (pc := 10) C 19 dX1_dampnessIn_10 (by decide) ⟨by omega, by omega⟩ (fun c_10 => ?_) (fun c_10 => absurd c_10 (by omega))
  refine j_iload_n (pc := 19) C dX1_dampnessIn_19 2 rfl ?_
  refine j_iconst (pc := 20) C dX1_dampnessIn_20 ?_
  refine j_bipush (pc := 21) C dX1_dampnessIn_21 (by decide +kernel) ?_
  refine j_callSI (pc := 23) C (As := [.int (zI b), .int (zI 1), .int (zI 50)]) (rest := []) (kX1_isIn l D c1 c2 c3 b 1 50 ⟨by omega, by omega⟩ ⟨by omega, by omega⟩ ⟨by omega, by omega⟩) (va_cwS 3 C.2.2.2.2.1 gX1_dampnessIn_X1_isIn rfl rfl rfl (by decide +kernel) ⟨Nat.le_of_ble_eq_true rfl, Nat.le_of_ble_eq_true rfl⟩) dX1_dampnessIn_23 rfl rfl (Nat.le_of_ble_eq_true rfl) (by decide) ?_
  refine j_if_ne (pc := 26) C 35 dX1_dampnessIn_26 (by decide) ⟨by omega, by omega⟩ (fun c_26 => ?_) (fun c_26 => absurd c_26 (by omega))
  refine j_aload_n (pc := 35) C dX1_dampnessIn_35 0 rfl ?_
  refine j_callV (pc := 36) C (As := []) (rest := []) (kX1_keep l D h c1 c2 c3 0 L K Dm S lo hi su db dy li so sp X ke se  ) (cwV 0 C.2.2.2.2.1 gX1_dampnessIn_X1_keep rfl rfl rfl (by decide +kernel) ⟨Nat.le_of_ble_eq_true rfl, Nat.le_of_ble_eq_true rfl⟩) 0 (ci := 1) rfl rfl rfl dX1_dampnessIn_36 rfl rfl (Nat.le_of_ble_eq_true rfl) (by decide) ?_
  refine j_iconst (pc := 39) C dX1_dampnessIn_39 ?_
  refine j_istore_n (pc := 40) C (lv' := [(0, .ref (h 0)), (1, .int (zI a)), (2, .int (zI b)), (3, .int (zI 0))]) dX1_dampnessIn_40 (by decide) [1, 2, 3, 0] rfl ?_
  refine J.cast (ws' := wN h c1 0 L K (dayF Dm L 0) S lo hi su db dy li so sp X (mix Dm ke 12) (dayT Dm L se 0)) (lv' := [(0, .ref (h 0)), (1, .int (zI a)), (2, .int (zI b)), (3, .int (zI 0))]) ?_ (by rfl) (by rfl) rfl
  refine j_up (fun i : Int => wN h c1 0 L K (dayF Dm L i) S lo hi su db dy li so sp X (mix Dm ke 12) (dayT Dm L se i)) (fun i : Int => [(0, .ref (h 0)), (1, .int (zI a)), (2, .int (zI b)), (3, .int (zI i))]) (fun i : Int => True) 0 b (by omega) trivial ?_ ?_
  · intro i h0_41 h1_41 hI_41 hk_41
    try dsimp only at hI_41 hk_41 ⊢
    refine j_iload_n (pc := 41) C dX1_dampnessIn_41 3 rfl ?_
    refine j_iload_n (pc := 42) C dX1_dampnessIn_42 2 rfl ?_
    refine j_icmp_ge (pc := 43) C 57 dX1_dampnessIn_43 (by decide) ⟨by omega, by omega⟩ ⟨by omega, by omega⟩ (fun c_43 => absurd c_43 (by omega)) (fun c_43 => ?_)
    refine j_aload_n (pc := 46) C dX1_dampnessIn_46 0 rfl ?_
    refine j_callI (pc := 47) C (As := []) (rest := []) (kX1_evenOut l D h c1 c2 c3 0 L K (dayF Dm L i) S lo hi su db dy li so sp X (mix Dm ke 12) (dayT Dm L se i)  (by omega) (by omega) (dayF_in hf i)) (cwV 0 C.2.2.2.2.1 gX1_dampnessIn_X1_evenOut rfl rfl rfl (by decide +kernel) ⟨Nat.le_of_ble_eq_true rfl, Nat.le_of_ble_eq_true rfl⟩) 0 (ci := 1) rfl rfl rfl dX1_dampnessIn_47 rfl rfl (Nat.le_of_ble_eq_true rfl) (by decide) ?_
    refine j_pop (pc := 50) C dX1_dampnessIn_50 rfl ?_
    refine j_iinc (pc := 51) C (lv' := [(0, .ref (h 0)), (1, .int (zI a)), (2, .int (zI b)), (3, .int (zI (i + 1)))]) dX1_dampnessIn_51 3 rfl (by decide) [1, 2, 3, 0] rfl ?_
    refine j_goto (pc := 54) C 41 dX1_dampnessIn_54 (by decide) ?_
    exact J.cast (hk_41 trivial) (by rw [dayF_up Dm L i h0_41, dayT_up Dm L se i h0_41]) (by rfl) rfl
  · intro hI_41
    try dsimp only at hI_41 ⊢
    refine j_iload_n (pc := 41) C dX1_dampnessIn_41 3 rfl ?_
    refine j_iload_n (pc := 42) C dX1_dampnessIn_42 2 rfl ?_
    refine j_icmp_ge (pc := 43) C 57 dX1_dampnessIn_43 (by decide) ⟨by omega, by omega⟩ ⟨by omega, by omega⟩ (fun c_43 => ?_) (fun c_43 => absurd c_43 (by omega))
    refine j_aload_n (pc := 57) C dX1_dampnessIn_57 0 rfl ?_
    refine j_get (pc := 58) C (ref := "GrainSiloModel") (T := TX1) (N := 16) hin 0 rfl rfl 3 (by decide) (C.w 2 rfl) rfl rfl dX1_dampnessIn_58 ?_
    refine j_iload_n (pc := 61) C dX1_dampnessIn_61 1 rfl ?_
    refine j_iald (pc := 62) C 2 0 rfl rfl (by omega) (by omega) (by decide) dX1_dampnessIn_62 ?_
    refine j_istore_n (pc := 63) C (lv' := [(0, .ref (h 0)), (1, .int (zI a)), (2, .int (zI b)), (3, .int (zI ((dayF Dm L b) a)))]) dX1_dampnessIn_63 (by decide) [1, 2, 3, 0] rfl ?_
    refine j_aload_n (pc := 64) C dX1_dampnessIn_64 0 rfl ?_
    refine j_callV (pc := 65) C (As := []) (rest := []) (kX1_bringBack l D h c1 c2 c3 0 L K (dayF Dm L b) S lo hi su db dy li so sp X (mix Dm ke 12) (dayT Dm L se b)  ) (cwV 0 C.2.2.2.2.1 gX1_dampnessIn_X1_bringBack rfl rfl rfl (by decide +kernel) ⟨Nat.le_of_ble_eq_true rfl, Nat.le_of_ble_eq_true rfl⟩) 0 (ci := 1) rfl rfl rfl dX1_dampnessIn_65 rfl rfl (Nat.le_of_ble_eq_true rfl) (by decide) ?_
    refine j_iload_n (pc := 68) C dX1_dampnessIn_68 3 rfl ?_
    exact j_iret (pc := 69) C hr dX1_dampnessIn_69 (by rfl) (by rfl) (by decide) (by decide)
set_option maxHeartbeats 4000000 in
set_option maxRecDepth 100000 in
theorem kX1_dampnessIn_no1 (l : Launch) (D : va_G) (h : Nat → Nat) (c1 c2 c3 : ClassId) (th L : Int) (K Dm : Int → Int) (S : Int) (lo hi su db : Int → Int) (dy li so sp : Int) (X : Int → Int → Int) (ke se : Int → Int) (a b : Int) (hL0 : 0 ≤ L) (hL : L ≤ 12) (ha : zR a) (hn : ¬ (0 ≤ a ∧ a < L)) : cI l yX1_dampnessIn wsX1_dampnessIn ({ frames := 2, cells := 0, slots := 0, locals := 43 }) D (tyS c1 c2 c3) [.ref (h 0), .int (zI a), .int (zI b)] (wN h c1 th L K Dm S lo hi su db dy li so sp X ke se) (wN h c1 1 L K Dm S lo hi su db dy li so sp X ke se) (zI 0) 0 0 := by
  refine cI.of (cc := cX1_dampnessIn) (maxL := 4) (ret := .int) (by decide) rfl (lv := [(0, .ref (h 0)), (1, .int (zI a)), (2, .int (zI b))]) [0, 1, 2] rfl (Nat.le_of_ble_eq_true rfl) ?_
  intro p e s m args below meth c A C hr
  have C : GC p s m args meth c cX1_dampnessIn 4 RX1 wsX1_dampnessIn D (tyS c1 c2 c3) A := C
  have hin : ∀ w ∈ wsX10, w ∈ wsX1_dampnessIn := fun _ h => List.mem_cons_of_mem _ (List.mem_append_right _ h)
  obtain ⟨ha1, ha2⟩ := ha
  refine j_aload_n (pc := 0) C dX1_dampnessIn_0 0 rfl ?_
  refine j_iconst (pc := 1) C dX1_dampnessIn_1 ?_
  refine j_put (pc := 2) C (ref := "GrainSiloModel") (T := TX1) (N := 16) (ws' := wN h c1 0 L K Dm S lo hi su db dy li so sp X ke se) hin tyX1 tyX1_ok nmX1 0 rfl rfl 0 (by decide) (C.w 1 rfl) rfl rfl (by decide +kernel) (Nat.le_of_ble_eq_true rfl) rfl dX1_dampnessIn_2 ?_
  refine j_aload_n (pc := 5) C dX1_dampnessIn_5 0 rfl ?_
  refine j_iload_n (pc := 6) C dX1_dampnessIn_6 1 rfl ?_
  refine j_callI (pc := 7) C (As := [.int (zI a)]) (rest := []) (kX1_isLayer l D h c1 c2 c3 0 L K Dm S lo hi su db dy li so sp X ke se a (by omega) (by omega) ⟨by omega, by omega⟩) (cwV 1 C.2.2.2.2.1 gX1_dampnessIn_X1_isLayer rfl rfl rfl (by decide +kernel) ⟨Nat.le_of_ble_eq_true rfl, Nat.le_of_ble_eq_true rfl⟩) 0 (ci := 1) rfl rfl rfl dX1_dampnessIn_7 rfl rfl (Nat.le_of_ble_eq_true rfl) (by decide) ?_
  refine j_if_ne (pc := 10) C 19 dX1_dampnessIn_10 (by decide) ⟨by omega, by omega⟩ (fun c_10 => absurd c_10 (by omega)) (fun c_10 => ?_)
  refine j_aload_n (pc := 13) C dX1_dampnessIn_13 0 rfl ?_
  refine j_iconst (pc := 14) C dX1_dampnessIn_14 ?_
  refine j_callI (pc := 15) C (As := [.int (zI 1)]) (rest := []) (kX1_no l D h c1 c2 c3 0 L K Dm S lo hi su db dy li so sp X ke se 1 ) (cwV 1 C.2.2.2.2.1 gX1_dampnessIn_X1_no rfl rfl rfl (by decide +kernel) ⟨Nat.le_of_ble_eq_true rfl, Nat.le_of_ble_eq_true rfl⟩) 0 (ci := 1) rfl rfl rfl dX1_dampnessIn_15 rfl rfl (Nat.le_of_ble_eq_true rfl) (by decide) ?_
  exact j_iret (pc := 18) C hr dX1_dampnessIn_18 (by rfl) (by rfl) (by decide) (by decide)
set_option maxHeartbeats 4000000 in
set_option maxRecDepth 100000 in
theorem kX1_dampnessIn_no2 (l : Launch) (D : va_G) (h : Nat → Nat) (c1 c2 c3 : ClassId) (th L : Int) (K Dm : Int → Int) (S : Int) (lo hi su db : Int → Int) (dy li so sp : Int) (X : Int → Int → Int) (ke se : Int → Int) (a b : Int) (h0 : 0 ≤ a) (h1 : a < L) (h2 : L ≤ 12) (hb : zR b) (hn : ¬ (1 ≤ b ∧ b ≤ 50)) : cI l yX1_dampnessIn wsX1_dampnessIn ({ frames := 2, cells := 0, slots := 0, locals := 43 }) D (tyS c1 c2 c3) [.ref (h 0), .int (zI a), .int (zI b)] (wN h c1 th L K Dm S lo hi su db dy li so sp X ke se) (wN h c1 2 L K Dm S lo hi su db dy li so sp X ke se) (zI 0) 0 0 := by
  refine cI.of (cc := cX1_dampnessIn) (maxL := 4) (ret := .int) (by decide) rfl (lv := [(0, .ref (h 0)), (1, .int (zI a)), (2, .int (zI b))]) [0, 1, 2] rfl (Nat.le_of_ble_eq_true rfl) ?_
  intro p e s m args below meth c A C hr
  have C : GC p s m args meth c cX1_dampnessIn 4 RX1 wsX1_dampnessIn D (tyS c1 c2 c3) A := C
  have hin : ∀ w ∈ wsX10, w ∈ wsX1_dampnessIn := fun _ h => List.mem_cons_of_mem _ (List.mem_append_right _ h)
  obtain ⟨hb1, hb2⟩ := hb
  refine j_aload_n (pc := 0) C dX1_dampnessIn_0 0 rfl ?_
  refine j_iconst (pc := 1) C dX1_dampnessIn_1 ?_
  refine j_put (pc := 2) C (ref := "GrainSiloModel") (T := TX1) (N := 16) (ws' := wN h c1 0 L K Dm S lo hi su db dy li so sp X ke se) hin tyX1 tyX1_ok nmX1 0 rfl rfl 0 (by decide) (C.w 1 rfl) rfl rfl (by decide +kernel) (Nat.le_of_ble_eq_true rfl) rfl dX1_dampnessIn_2 ?_
  refine j_aload_n (pc := 5) C dX1_dampnessIn_5 0 rfl ?_
  refine j_iload_n (pc := 6) C dX1_dampnessIn_6 1 rfl ?_
  refine j_callI (pc := 7) C (As := [.int (zI a)]) (rest := []) (kX1_isLayer l D h c1 c2 c3 0 L K Dm S lo hi su db dy li so sp X ke se a (by omega) (by omega) ⟨by omega, by omega⟩) (cwV 1 C.2.2.2.2.1 gX1_dampnessIn_X1_isLayer rfl rfl rfl (by decide +kernel) ⟨Nat.le_of_ble_eq_true rfl, Nat.le_of_ble_eq_true rfl⟩) 0 (ci := 1) rfl rfl rfl dX1_dampnessIn_7 rfl rfl (Nat.le_of_ble_eq_true rfl) (by decide) ?_
  refine j_if_ne (pc := 10) C 19 dX1_dampnessIn_10 (by decide) ⟨by omega, by omega⟩ (fun c_10 => ?_) (fun c_10 => absurd c_10 (by omega))
  refine j_iload_n (pc := 19) C dX1_dampnessIn_19 2 rfl ?_
  refine j_iconst (pc := 20) C dX1_dampnessIn_20 ?_
  refine j_bipush (pc := 21) C dX1_dampnessIn_21 (by decide +kernel) ?_
  refine j_callSI (pc := 23) C (As := [.int (zI b), .int (zI 1), .int (zI 50)]) (rest := []) (kX1_isIn l D c1 c2 c3 b 1 50 ⟨by omega, by omega⟩ ⟨by omega, by omega⟩ ⟨by omega, by omega⟩) (va_cwS 3 C.2.2.2.2.1 gX1_dampnessIn_X1_isIn rfl rfl rfl (by decide +kernel) ⟨Nat.le_of_ble_eq_true rfl, Nat.le_of_ble_eq_true rfl⟩) dX1_dampnessIn_23 rfl rfl (Nat.le_of_ble_eq_true rfl) (by decide) ?_
  refine j_if_ne (pc := 26) C 35 dX1_dampnessIn_26 (by decide) ⟨by omega, by omega⟩ (fun c_26 => absurd c_26 (by omega)) (fun c_26 => ?_)
  refine j_aload_n (pc := 29) C dX1_dampnessIn_29 0 rfl ?_
  refine j_iconst (pc := 30) C dX1_dampnessIn_30 ?_
  refine j_callI (pc := 31) C (As := [.int (zI 2)]) (rest := []) (kX1_no l D h c1 c2 c3 0 L K Dm S lo hi su db dy li so sp X ke se 2 ) (cwV 1 C.2.2.2.2.1 gX1_dampnessIn_X1_no rfl rfl rfl (by decide +kernel) ⟨Nat.le_of_ble_eq_true rfl, Nat.le_of_ble_eq_true rfl⟩) 0 (ci := 1) rfl rfl rfl dX1_dampnessIn_31 rfl rfl (Nat.le_of_ble_eq_true rfl) (by decide) ?_
  exact j_iret (pc := 34) C hr dX1_dampnessIn_34 (by rfl) (by rfl) (by decide) (by decide)
set_option maxHeartbeats 4000000 in
set_option maxRecDepth 100000 in
theorem kX1_daysUntilEven (l : Launch) (D : va_G) (h : Nat → Nat) (c1 c2 c3 : ClassId) (th L : Int) (K Dm : Int → Int) (S : Int) (lo hi su db : Int → Int) (dy li so sp : Int) (X : Int → Int → Int) (ke se : Int → Int) (hL0 : 0 ≤ L) (hL : L ≤ 12) (hf : ∀ j, 0 ≤ j → j < L → 0 ≤ Dm j ∧ Dm j ≤ 40) : cI l yX1_daysUntilEven wsX1_daysUntilEven ({ frames := 4, cells := 0, slots := 0, locals := 88 }) D (tyS c1 c2 c3) [.ref (h 0)] (wN h c1 th L K Dm S lo hi su db dy li so sp X ke se) (wN h c1 0 L K (mix (mix Dm ke 12) (dayF Dm L (dEnd (fidx (fun j => decide (turnC (dayF Dm L j) L = 0)) 201))) 12) S lo hi su db dy li so sp X (mix Dm ke 12) (dayT Dm L se (dEnd (fidx (fun j => decide (turnC (dayF Dm L j) L = 0)) 201)))) (zI (fidx (fun j => decide (turnC (dayF Dm L j) L = 0)) 201)) 0 0 := by
  refine cI.of (cc := cX1_daysUntilEven) (maxL := 2) (ret := .int) (by decide) rfl (lv := [(0, .ref (h 0))]) [0] rfl (Nat.le_of_ble_eq_true rfl) ?_
  intro p e s m args below meth c A C hr
  have C : GC p s m args meth c cX1_daysUntilEven 2 RX1 wsX1_daysUntilEven D (tyS c1 c2 c3) A := C
  have hin : ∀ w ∈ wsX10, w ∈ wsX1_daysUntilEven := fun _ h => List.mem_cons_of_mem _ (List.mem_append_right _ h)
  refine j_aload_n (pc := 0) C dX1_daysUntilEven_0 0 rfl ?_
  refine j_iconst (pc := 1) C dX1_daysUntilEven_1 ?_
  refine j_put (pc := 2) C (ref := "GrainSiloModel") (T := TX1) (N := 16) (ws' := wN h c1 0 L K Dm S lo hi su db dy li so sp X ke se) hin tyX1 tyX1_ok nmX1 0 rfl rfl 0 (by decide) (C.w 1 rfl) rfl rfl (by decide +kernel) (Nat.le_of_ble_eq_true rfl) rfl dX1_daysUntilEven_2 ?_
  refine j_aload_n (pc := 5) C dX1_daysUntilEven_5 0 rfl ?_
  refine j_callV (pc := 6) C (As := []) (rest := []) (kX1_keep l D h c1 c2 c3 0 L K Dm S lo hi su db dy li so sp X ke se  ) (cwV 0 C.2.2.2.2.1 gX1_daysUntilEven_X1_keep rfl rfl rfl (by decide +kernel) ⟨Nat.le_of_ble_eq_true rfl, Nat.le_of_ble_eq_true rfl⟩) 0 (ci := 1) rfl rfl rfl dX1_daysUntilEven_6 rfl rfl (Nat.le_of_ble_eq_true rfl) (by decide) ?_
  refine j_iconst (pc := 9) C dX1_daysUntilEven_9 ?_
  refine j_istore_n (pc := 10) C (lv' := [(0, .ref (h 0)), (1, .int (zI 0))]) dX1_daysUntilEven_10 (by decide) [1, 0] rfl ?_
  refine J.cast (ws' := wN h c1 0 L K (dayF Dm L 0) S lo hi su db dy li so sp X (mix Dm ke 12) (dayT Dm L se 0)) (lv' := [(0, .ref (h 0)), (1, .int (zI 0))]) ?_ (by rfl) (by rfl) rfl
  refine j_up (fun i : Int => wN h c1 0 L K (dayF Dm L i) S lo hi su db dy li so sp X (mix Dm ke 12) (dayT Dm L se i)) (fun i : Int => [(0, .ref (h 0)), (1, .int (zI i))]) (fun i : Int => ∀ j, 0 ≤ j → j < i → ¬ turnC (dayF Dm L j) L = 0) 0 201 (by decide) (fun j j0 j1 => absurd j1 (by omega)) ?_ ?_
  · intro i h0_11 h1_11 hI_11 hk_11
    try dsimp only at hI_11 hk_11 ⊢
    have z : 0 ≤ turnC (dayF Dm L i) L ∧ turnC (dayF Dm L i) L ≤ L - 0 := zc_le _ 0 L hL0
    refine j_iload_n (pc := 11) C dX1_daysUntilEven_11 1 rfl ?_
    refine j_sipush (pc := 12) C dX1_daysUntilEven_12 (by decide +kernel) ?_
    refine j_icmp_gt (pc := 15) C 31 dX1_daysUntilEven_15 (by decide) ⟨by omega, by omega⟩ ⟨by omega, by omega⟩ (fun c_15 => absurd c_15 (by omega)) (fun c_15 => ?_)
    refine j_aload_n (pc := 18) C dX1_daysUntilEven_18 0 rfl ?_
    refine j_callI (pc := 19) C (As := []) (rest := []) (kX1_evenOut l D h c1 c2 c3 0 L K (dayF Dm L i) S lo hi su db dy li so sp X (mix Dm ke 12) (dayT Dm L se i)  (by omega) (by omega) (dayF_in hf i)) (cwV 0 C.2.2.2.2.1 gX1_daysUntilEven_X1_evenOut rfl rfl rfl (by decide +kernel) ⟨Nat.le_of_ble_eq_true rfl, Nat.le_of_ble_eq_true rfl⟩) 0 (ci := 1) rfl rfl rfl dX1_daysUntilEven_19 rfl rfl (Nat.le_of_ble_eq_true rfl) (by decide) ?_
    refine j_if_le (pc := 22) C 31 dX1_daysUntilEven_22 (by decide) ⟨by omega, by omega⟩ (fun c_22 => ?_) (fun c_22 => ?_)
    · skip
      have e0 : turnC (dayF Dm L i) L = 0 := by omega
      refine j_aload_n (pc := 31) C dX1_daysUntilEven_31 0 rfl ?_
      refine j_callV (pc := 32) C (As := []) (rest := []) (kX1_bringBack l D h c1 c2 c3 0 L K (mix (turnD (dayF Dm L i) L) (dayF Dm L i) L) S lo hi su db dy li so sp X (mix Dm ke 12) (mix (turn (dayF Dm L i) L) (dayT Dm L se i) L)  ) (cwV 0 C.2.2.2.2.1 gX1_daysUntilEven_X1_bringBack rfl rfl rfl (by decide +kernel) ⟨Nat.le_of_ble_eq_true rfl, Nat.le_of_ble_eq_true rfl⟩) 0 (ci := 1) rfl rfl rfl dX1_daysUntilEven_32 rfl rfl (Nat.le_of_ble_eq_true rfl) (by decide) ?_
      refine j_iload_n (pc := 35) C dX1_daysUntilEven_35 1 rfl ?_
      refine j_sipush (pc := 36) C dX1_daysUntilEven_36 (by decide +kernel) ?_
      refine j_icmp_le (pc := 39) C 46 dX1_daysUntilEven_39 (by decide) ⟨by omega, by omega⟩ ⟨by omega, by omega⟩ (fun c_39 => ?_) (fun c_39 => absurd c_39 (by omega))
      refine j_iload_n (pc := 46) C dX1_daysUntilEven_46 1 rfl ?_
      exact j_iret (pc := 47) C hr dX1_daysUntilEven_47 (by first | rw [fidx_is h0_11 h1_11 (decide_eq_true e0) (fun j j0 j1 => decide_eq_false (hI_11 j j0 j1))] | rw [fidx_no (p := (fun j => decide (turnC (dayF Dm L j) L = 0))) (L := 201) (by omega) (fun j j0 j1 => decide_eq_false (hI_11 j j0 j1))]) (by first | rw [fidx_is h0_11 h1_11 (decide_eq_true e0) (fun j j0 j1 => decide_eq_false (hI_11 j j0 j1)), show dEnd i = i + 1 from if_neg (by omega), dayF_up Dm L i h0_11, dayT_up Dm L se i h0_11] | (rw [fidx_no (p := (fun j => decide (turnC (dayF Dm L j) L = 0))) (L := 201) (by omega) (fun j j0 j1 => decide_eq_false (hI_11 j j0 j1))]; rfl)) (by decide) (by decide)
    · skip
      have e0 : ¬ turnC (dayF Dm L i) L = 0 := by omega
      refine j_iinc (pc := 25) C (lv' := [(0, .ref (h 0)), (1, .int (zI (i + 1)))]) dX1_daysUntilEven_25 1 rfl (by decide) [1, 0] rfl ?_
      refine j_goto (pc := 28) C 11 dX1_daysUntilEven_28 (by decide) ?_
      exact J.cast (hk_11 (fun j j0 j1 => by rcases Int.lt_or_eq_of_le (show j ≤ i by omega) with q | q; exact hI_11 j j0 q; subst q; exact e0)) (by rw [dayF_up Dm L i h0_11, dayT_up Dm L se i h0_11]) (by rfl) rfl
  · intro hI_11
    try dsimp only at hI_11 ⊢
    refine j_iload_n (pc := 11) C dX1_daysUntilEven_11 1 rfl ?_
    refine j_sipush (pc := 12) C dX1_daysUntilEven_12 (by decide +kernel) ?_
    refine j_icmp_gt (pc := 15) C 31 dX1_daysUntilEven_15 (by decide) ⟨by omega, by omega⟩ ⟨by omega, by omega⟩ (fun c_15 => ?_) (fun c_15 => absurd c_15 (by omega))
    refine j_aload_n (pc := 31) C dX1_daysUntilEven_31 0 rfl ?_
    refine j_callV (pc := 32) C (As := []) (rest := []) (kX1_bringBack l D h c1 c2 c3 0 L K (dayF Dm L 201) S lo hi su db dy li so sp X (mix Dm ke 12) (dayT Dm L se 201)  ) (cwV 0 C.2.2.2.2.1 gX1_daysUntilEven_X1_bringBack rfl rfl rfl (by decide +kernel) ⟨Nat.le_of_ble_eq_true rfl, Nat.le_of_ble_eq_true rfl⟩) 0 (ci := 1) rfl rfl rfl dX1_daysUntilEven_32 rfl rfl (Nat.le_of_ble_eq_true rfl) (by decide) ?_
    refine j_iload_n (pc := 35) C dX1_daysUntilEven_35 1 rfl ?_
    refine j_sipush (pc := 36) C dX1_daysUntilEven_36 (by decide +kernel) ?_
    refine j_icmp_le (pc := 39) C 46 dX1_daysUntilEven_39 (by decide) ⟨by omega, by omega⟩ ⟨by omega, by omega⟩ (fun c_39 => absurd c_39 (by omega)) (fun c_39 => ?_)
    refine j_iconst (pc := 42) C dX1_daysUntilEven_42 ?_
    refine j_goto (pc := 43) C 47 dX1_daysUntilEven_43 (by decide) ?_
    exact j_iret (pc := 47) C hr dX1_daysUntilEven_47 (by first | rw [fidx_is h0_11 h1_11 (decide_eq_true e0) (fun j j0 j1 => decide_eq_false (hI_11 j j0 j1))] | rw [fidx_no (p := (fun j => decide (turnC (dayF Dm L j) L = 0))) (L := 201) (by omega) (fun j j0 j1 => decide_eq_false (hI_11 j j0 j1))]) (by first | rw [fidx_is h0_11 h1_11 (decide_eq_true e0) (fun j j0 j1 => decide_eq_false (hI_11 j j0 j1)), show dEnd i = i + 1 from if_neg (by omega), dayF_up Dm L i h0_11, dayT_up Dm L se i h0_11] | (rw [fidx_no (p := (fun j => decide (turnC (dayF Dm L j) L = 0))) (L := 201) (by omega) (fun j j0 j1 => decide_eq_false (hI_11 j j0 j1))]; rfl)) (by decide) (by decide)
set_option maxHeartbeats 4000000 in
set_option maxRecDepth 100000 in
theorem kX1_meanDampness (l : Launch) (D : va_G) (h : Nat → Nat) (c1 c2 c3 : ClassId) (th L : Int) (K Dm : Int → Int) (S : Int) (lo hi su db : Int → Int) (dy li so sp : Int) (X : Int → Int → Int) (ke se : Int → Int) (hL0 : 0 ≤ L) (hL : L ≤ 12) (hf : ∀ j, 0 ≤ j → j < L → 0 ≤ Dm j ∧ Dm j ≤ 40) : cD l yX1_meanDampness wsX1_meanDampness ({ frames := 1, cells := 0, slots := 0, locals := 24 }) D (tyS c1 c2 c3) [.ref (h 0)] (wN h c1 th L K Dm S lo hi su db dy li so sp X ke se) (wN h c1 0 L K Dm S lo hi su db dy li so sp X ke se) (if L = 0 then FP.dconst0 else FP.ddiv (FP.i2d (zI (zs Dm 0 (L - 1 + 1)))) (FP.i2d (zI L))) 0 0 := by
  refine cD.of (cc := cX1_meanDampness) (maxL := 1) (by decide) rfl (lv := [(0, .ref (h 0))]) [0] rfl (Nat.le_of_ble_eq_true rfl) ?_
  intro p e s m args below meth c A C hr
  have C : GC p s m args meth c cX1_meanDampness 1 RX1 wsX1_meanDampness D (tyS c1 c2 c3) A := C
  have hin : ∀ w ∈ wsX10, w ∈ wsX1_meanDampness := fun _ h => List.mem_cons_of_mem _ (List.mem_append_right _ h)
  refine j_aload_n (pc := 0) C dX1_meanDampness_0 0 rfl ?_
  refine j_iconst (pc := 1) C dX1_meanDampness_1 ?_
  refine j_put (pc := 2) C (ref := "GrainSiloModel") (T := TX1) (N := 16) (ws' := wN h c1 0 L K Dm S lo hi su db dy li so sp X ke se) hin tyX1 tyX1_ok nmX1 0 rfl rfl 0 (by decide) (C.w 1 rfl) rfl rfl (by decide +kernel) (Nat.le_of_ble_eq_true rfl) rfl dX1_meanDampness_2 ?_
  refine j_aload_n (pc := 5) C dX1_meanDampness_5 0 rfl ?_
  refine j_get (pc := 6) C (ref := "GrainSiloModel") (T := TX1) (N := 16) hin 0 rfl rfl 1 (by decide) (C.w 2 rfl) rfl rfl dX1_meanDampness_6 ?_
  refine j_if_ne (pc := 9) C 16 dX1_meanDampness_9 (by decide) ⟨by omega, by omega⟩ (fun c_9 => ?_) (fun c_9 => ?_)
  · skip
    refine j_aload_n (pc := 16) C dX1_meanDampness_16 0 rfl ?_
    refine j_iconst (pc := 17) C dX1_meanDampness_17 ?_
    refine j_aload_n (pc := 18) C dX1_meanDampness_18 0 rfl ?_
    refine j_get (pc := 19) C (ref := "GrainSiloModel") (T := TX1) (N := 16) hin 0 rfl rfl 1 (by decide) (C.w 2 rfl) rfl rfl dX1_meanDampness_19 ?_
    refine j_iconst (pc := 22) C dX1_meanDampness_22 ?_
    refine j_isub (pc := 23) C dX1_meanDampness_23 ?_
    refine j_callI (pc := 24) C (As := [.int (zI 0), .int (zI (L - 1))]) (rest := []) (kX1_added l D h c1 c2 c3 0 L K Dm S lo hi su db dy li so sp X ke se 0 (L - 1) (by omega) (by omega) (by omega)) (cwV 2 C.2.2.2.2.1 gX1_meanDampness_X1_added rfl rfl rfl (by decide +kernel) ⟨Nat.le_of_ble_eq_true rfl, Nat.le_of_ble_eq_true rfl⟩) 0 (ci := 1) rfl rfl rfl dX1_meanDampness_24 rfl rfl (Nat.le_of_ble_eq_true rfl) (by decide) ?_
    refine j_i2d (pc := 27) C dX1_meanDampness_27 ?_
    refine j_aload_n (pc := 28) C dX1_meanDampness_28 0 rfl ?_
    refine j_get (pc := 29) C (ref := "GrainSiloModel") (T := TX1) (N := 16) hin 0 rfl rfl 1 (by decide) (C.w 2 rfl) rfl rfl dX1_meanDampness_29 ?_
    refine j_i2d (pc := 32) C dX1_meanDampness_32 ?_
    have z := zs_bnd hf 0 (L - 1 + 1) (by omega) (by omega) (by omega)
    refine j_ddiv (pc := 33) C dX1_meanDampness_33 (no_nan (by omega) (by omega) (by omega) (by omega)) ?_
    exact j_dret (pc := 34) C hr dX1_meanDampness_34 (by first | rw [if_pos c_9] | rw [if_neg c_9]) (by rfl) (by decide) (by decide)
  · skip
    refine j_dconst0 (pc := 12) C dX1_meanDampness_12 ?_
    refine j_goto (pc := 13) C 34 dX1_meanDampness_13 (by decide) ?_
    exact j_dret (pc := 34) C hr dX1_meanDampness_34 (by first | rw [if_pos c_9] | rw [if_neg c_9]) (by rfl) (by decide) (by decide)
set_option maxHeartbeats 4000000 in
set_option maxRecDepth 100000 in
theorem kX1_digest (l : Launch) (D : va_G) (h : Nat → Nat) (c1 c2 c3 : ClassId) (th L : Int) (K Dm : Int → Int) (S : Int) (lo hi su db : Int → Int) (dy li so sp : Int) (X : Int → Int → Int) (ke se : Int → Int) (hok : okS Dm L lo hi su db S) (l0 : 0 ≤ li) (l1 : li ≤ 40) : cL l yX1_digest wsX1_digest ({ frames := 5, cells := 1, slots := 9, locals := 110 }) D (tyS c1 c2 c3) [.ref (h 0)] (wN h c1 th L K Dm S lo hi su db dy li so sp X ke se) (wN h c1 0 L K Dm S lo hi su db dy li so sp (fw (bgn X L lo hi su db S) L (L + 1)) ke se) (dg (dgS lo hi su db) (dg (dgL K Dm (fw (bgn X L lo hi su db S) L (L + 1))) (dg (fun j d => d31 d ((upZ (upZ (upZ (upZ (upZ (upZ (upZ (upZ (upZ (fun _ => 0) 0 L) 1 S) 2 dy) 3 li) 4 so) 5 sp) 6 (dNow (fw (bgn X L lo hi su db S) L (L + 1)) L)) 7 (nDry (fw (bgn X L lo hi su db S) L (L + 1)) li L)) 8 (nDamp (fw (bgn X L lo hi su db S) L (L + 1)) li L)) j)) 1907 9) L) S) 1 9 := by
  refine cL.of (cc := cX1_digest) (maxL := 8) (by decide) rfl (lv := [(0, .ref (h 0))]) [0] rfl (Nat.le_of_ble_eq_true rfl) ?_
  intro p e s m args below meth c A C hr
  have C : GC p s m args meth c cX1_digest 8 RX1 wsX1_digest D (tyS c1 c2 c3) A := C
  have hin : ∀ w ∈ wsX10, w ∈ wsX1_digest := fun _ h => List.mem_cons_of_mem _ (List.mem_append_right _ h)
  obtain ⟨⟨hL0, hL⟩, ⟨hS0, hS⟩, hf, hs⟩ := id hok
  have w := Fok_fw (Fok_bgn hok X) (L + 1) (by omega) (Int.le_refl _)
  have hB := Fok_B hL hf w
  refine j_aload_n (pc := 0) C dX1_digest_0 0 rfl ?_
  refine j_iconst (pc := 1) C dX1_digest_1 ?_
  refine j_put (pc := 2) C (ref := "GrainSiloModel") (T := TX1) (N := 16) (ws' := wN h c1 0 L K Dm S lo hi su db dy li so sp X ke se) hin tyX1 tyX1_ok nmX1 0 rfl rfl 0 (by decide) (C.w 1 rfl) rfl rfl (by decide +kernel) (Nat.le_of_ble_eq_true rfl) rfl dX1_digest_2 ?_
  refine j_aload_n (pc := 5) C dX1_digest_5 0 rfl ?_
  refine j_callV (pc := 6) C (As := []) (rest := []) (kX1_reckon l D h c1 c2 c3 0 L K Dm S lo hi su db dy li so sp X ke se  hok) (cwV 0 C.2.2.2.2.1 gX1_digest_X1_reckon rfl rfl rfl (by decide +kernel) ⟨Nat.le_of_ble_eq_true rfl, Nat.le_of_ble_eq_true rfl⟩) 0 (ci := 1) rfl rfl rfl dX1_digest_6 rfl rfl (Nat.le_of_ble_eq_true rfl) (by decide) ?_
  refine j_bipush (pc := 9) C dX1_digest_9 (by decide +kernel) ?_
  have C0 := C
  refine j_newa (pc := 11) C (C.w 2 rfl) (n := 9) rfl (by decide) (by decide) (by decide) dX1_digest_11 (fun q9 cA9 C => ?_)
  refine j_dup (pc := 13) C dX1_digest_13 rfl ?_
  refine j_iconst (pc := 14) C dX1_digest_14 ?_
  refine j_aload_n (pc := 15) C dX1_digest_15 0 rfl ?_
  refine j_get (pc := 16) C (ref := "GrainSiloModel") (T := TX1) (N := 16) hin 0 rfl rfl 1 (by decide) (C.w 3 rfl) rfl rfl dX1_digest_16 ?_
  refine j_iast (pc := 19) C 10 3 rfl rfl (by omega) (by omega) (by decide) (ws' := wN h c1 0 L K Dm S lo hi su db dy li so sp (fw (bgn X L lo hi su db S) L (L + 1)) ke se ++ [(q9, .inl (cA9, 9, .inl (zA (upZ (fun _ => 0) 0 L))))]) rfl dX1_digest_19 ?_
  refine j_dup (pc := 20) C dX1_digest_20 rfl ?_
  refine j_iconst (pc := 21) C dX1_digest_21 ?_
  refine j_aload_n (pc := 22) C dX1_digest_22 0 rfl ?_
  refine j_get (pc := 23) C (ref := "GrainSiloModel") (T := TX1) (N := 16) hin 0 rfl rfl 4 (by decide) (C.w 4 rfl) rfl rfl dX1_digest_23 ?_
  refine j_iast (pc := 26) C 10 3 rfl rfl (by omega) (by omega) (by decide) (ws' := wN h c1 0 L K Dm S lo hi su db dy li so sp (fw (bgn X L lo hi su db S) L (L + 1)) ke se ++ [(q9, .inl (cA9, 9, .inl (zA (upZ (upZ (fun _ => 0) 0 L) 1 S))))]) rfl dX1_digest_26 ?_
  refine j_dup (pc := 27) C dX1_digest_27 rfl ?_
  refine j_iconst (pc := 28) C dX1_digest_28 ?_
  refine j_aload_n (pc := 29) C dX1_digest_29 0 rfl ?_
  refine j_get (pc := 30) C (ref := "GrainSiloModel") (T := TX1) (N := 16) hin 0 rfl rfl 9 (by decide) (C.w 5 rfl) rfl rfl dX1_digest_30 ?_
  refine j_iast (pc := 33) C 10 3 rfl rfl (by omega) (by omega) (by decide) (ws' := wN h c1 0 L K Dm S lo hi su db dy li so sp (fw (bgn X L lo hi su db S) L (L + 1)) ke se ++ [(q9, .inl (cA9, 9, .inl (zA (upZ (upZ (upZ (fun _ => 0) 0 L) 1 S) 2 dy))))]) rfl dX1_digest_33 ?_
  refine j_dup (pc := 34) C dX1_digest_34 rfl ?_
  refine j_iconst (pc := 35) C dX1_digest_35 ?_
  refine j_aload_n (pc := 36) C dX1_digest_36 0 rfl ?_
  refine j_get (pc := 37) C (ref := "GrainSiloModel") (T := TX1) (N := 16) hin 0 rfl rfl 10 (by decide) (C.w 6 rfl) rfl rfl dX1_digest_37 ?_
  refine j_iast (pc := 40) C 10 3 rfl rfl (by omega) (by omega) (by decide) (ws' := wN h c1 0 L K Dm S lo hi su db dy li so sp (fw (bgn X L lo hi su db S) L (L + 1)) ke se ++ [(q9, .inl (cA9, 9, .inl (zA (upZ (upZ (upZ (upZ (fun _ => 0) 0 L) 1 S) 2 dy) 3 li))))]) rfl dX1_digest_40 ?_
  refine j_dup (pc := 41) C dX1_digest_41 rfl ?_
  refine j_iconst (pc := 42) C dX1_digest_42 ?_
  refine j_aload_n (pc := 43) C dX1_digest_43 0 rfl ?_
  refine j_get (pc := 44) C (ref := "GrainSiloModel") (T := TX1) (N := 16) hin 0 rfl rfl 11 (by decide) (C.w 7 rfl) rfl rfl dX1_digest_44 ?_
  refine j_iast (pc := 47) C 10 3 rfl rfl (by omega) (by omega) (by decide) (ws' := wN h c1 0 L K Dm S lo hi su db dy li so sp (fw (bgn X L lo hi su db S) L (L + 1)) ke se ++ [(q9, .inl (cA9, 9, .inl (zA (upZ (upZ (upZ (upZ (upZ (fun _ => 0) 0 L) 1 S) 2 dy) 3 li) 4 so))))]) rfl dX1_digest_47 ?_
  refine j_dup (pc := 48) C dX1_digest_48 rfl ?_
  refine j_iconst (pc := 49) C dX1_digest_49 ?_
  refine j_aload_n (pc := 50) C dX1_digest_50 0 rfl ?_
  refine j_get (pc := 51) C (ref := "GrainSiloModel") (T := TX1) (N := 16) hin 0 rfl rfl 12 (by decide) (C.w 8 rfl) rfl rfl dX1_digest_51 ?_
  refine j_iast (pc := 54) C 10 3 rfl rfl (by omega) (by omega) (by decide) (ws' := wN h c1 0 L K Dm S lo hi su db dy li so sp (fw (bgn X L lo hi su db S) L (L + 1)) ke se ++ [(q9, .inl (cA9, 9, .inl (zA (upZ (upZ (upZ (upZ (upZ (upZ (fun _ => 0) 0 L) 1 S) 2 dy) 3 li) 4 so) 5 sp))))]) rfl dX1_digest_54 ?_
  refine j_dup (pc := 55) C dX1_digest_55 rfl ?_
  refine j_bipush (pc := 56) C dX1_digest_56 (by decide +kernel) ?_
  refine j_aload_n (pc := 58) C dX1_digest_58 0 rfl ?_
  refine j_callFI (pc := 59) C (As := []) (rest := [.int (zI 6), .ref q9, .ref q9]) (wr := [(q9, .inl (cA9, 9, .inl (zA (upZ (upZ (upZ (upZ (upZ (upZ (fun _ => 0) 0 L) 1 S) 2 dy) 3 li) 4 so) 5 sp))))]) (kX1_allDoubt l D h c1 c2 c3 0 L K Dm S lo hi su db dy li so sp (fw (bgn X L lo hi su db S) L (L + 1)) ke se  (by omega) (by omega)) [0, 1, 2] rfl (cwV 0 C.2.2.2.2.1 gX1_digest_X1_allDoubt rfl rfl rfl (by decide +kernel) ⟨Nat.le_of_ble_eq_true rfl, Nat.le_of_ble_eq_true rfl⟩) 0 (ci := 1) rfl rfl rfl dX1_digest_59 rfl rfl (Nat.le_of_ble_eq_true rfl) (by decide) ?_
  refine j_iast (pc := 62) C 10 3 rfl rfl (by omega) (by omega) (by decide) (ws' := wN h c1 0 L K Dm S lo hi su db dy li so sp (fw (bgn X L lo hi su db S) L (L + 1)) ke se ++ [(q9, .inl (cA9, 9, .inl (zA (upZ (upZ (upZ (upZ (upZ (upZ (upZ (fun _ => 0) 0 L) 1 S) 2 dy) 3 li) 4 so) 5 sp) 6 (dNow (fw (bgn X L lo hi su db S) L (L + 1)) L)))))]) rfl dX1_digest_62 ?_
  refine j_dup (pc := 63) C dX1_digest_63 rfl ?_
  refine j_bipush (pc := 64) C dX1_digest_64 (by decide +kernel) ?_
  refine j_aload_n (pc := 66) C dX1_digest_66 0 rfl ?_
  refine j_iconst (pc := 67) C dX1_digest_67 ?_
  refine j_callFI (pc := 68) C (As := [.int (zI 1)]) (rest := [.int (zI 7), .ref q9, .ref q9]) (wr := [(q9, .inl (cA9, 9, .inl (zA (upZ (upZ (upZ (upZ (upZ (upZ (upZ (fun _ => 0) 0 L) 1 S) 2 dy) 3 li) 4 so) 5 sp) 6 (dNow (fw (bgn X L lo hi su db S) L (L + 1)) L)))))]) (kX1_surely_t l D h c1 c2 c3 0 L K Dm S lo hi su db dy li so sp (fw (bgn X L lo hi su db S) L (L + 1)) ke se  (by omega) (by omega) (by omega) (by omega) hB) [0, 1, 2] rfl (cwV 1 C.2.2.2.2.1 gX1_digest_X1_surely rfl rfl rfl (by decide +kernel) ⟨Nat.le_of_ble_eq_true rfl, Nat.le_of_ble_eq_true rfl⟩) 0 (ci := 1) rfl rfl rfl dX1_digest_68 rfl rfl (Nat.le_of_ble_eq_true rfl) (by decide) ?_
  refine j_iast (pc := 71) C 10 3 rfl rfl (by omega) (by omega) (by decide) (ws' := wN h c1 0 L K Dm S lo hi su db dy li so sp (fw (bgn X L lo hi su db S) L (L + 1)) ke se ++ [(q9, .inl (cA9, 9, .inl (zA (upZ (upZ (upZ (upZ (upZ (upZ (upZ (upZ (fun _ => 0) 0 L) 1 S) 2 dy) 3 li) 4 so) 5 sp) 6 (dNow (fw (bgn X L lo hi su db S) L (L + 1)) L)) 7 (nDry (fw (bgn X L lo hi su db S) L (L + 1)) li L)))))]) rfl dX1_digest_71 ?_
  refine j_dup (pc := 72) C dX1_digest_72 rfl ?_
  refine j_bipush (pc := 73) C dX1_digest_73 (by decide +kernel) ?_
  refine j_aload_n (pc := 75) C dX1_digest_75 0 rfl ?_
  refine j_iconst (pc := 76) C dX1_digest_76 ?_
  refine j_callFI (pc := 77) C (As := [.int (zI 0)]) (rest := [.int (zI 8), .ref q9, .ref q9]) (wr := [(q9, .inl (cA9, 9, .inl (zA (upZ (upZ (upZ (upZ (upZ (upZ (upZ (upZ (fun _ => 0) 0 L) 1 S) 2 dy) 3 li) 4 so) 5 sp) 6 (dNow (fw (bgn X L lo hi su db S) L (L + 1)) L)) 7 (nDry (fw (bgn X L lo hi su db S) L (L + 1)) li L)))))]) (kX1_surely_f l D h c1 c2 c3 0 L K Dm S lo hi su db dy li so sp (fw (bgn X L lo hi su db S) L (L + 1)) ke se  (by omega) (by omega) (by omega) (by omega) hB) [0, 1, 2] rfl (cwV 1 C.2.2.2.2.1 gX1_digest_X1_surely rfl rfl rfl (by decide +kernel) ⟨Nat.le_of_ble_eq_true rfl, Nat.le_of_ble_eq_true rfl⟩) 0 (ci := 1) rfl rfl rfl dX1_digest_77 rfl rfl (Nat.le_of_ble_eq_true rfl) (by decide) ?_
  refine j_iast (pc := 80) C 10 3 rfl rfl (by omega) (by omega) (by decide) (ws' := wN h c1 0 L K Dm S lo hi su db dy li so sp (fw (bgn X L lo hi su db S) L (L + 1)) ke se ++ [(q9, .inl (cA9, 9, .inl (zA (upZ (upZ (upZ (upZ (upZ (upZ (upZ (upZ (upZ (fun _ => 0) 0 L) 1 S) 2 dy) 3 li) 4 so) 5 sp) 6 (dNow (fw (bgn X L lo hi su db S) L (L + 1)) L)) 7 (nDry (fw (bgn X L lo hi su db S) L (L + 1)) li L)) 8 (nDamp (fw (bgn X L lo hi su db S) L (L + 1)) li L)))))]) rfl dX1_digest_80 ?_
  refine j_astore_n (pc := 81) C (lv' := [(0, .ref (h 0)), (1, .ref q9)]) dX1_digest_81 (by decide) [1, 0] rfl ?_
  refine j_ldc2 (pc := 82) C (C.w 9 rfl) dX1_digest_82 ?_
  refine j_lstore_n (pc := 85) C (lv' := [(0, .ref (h 0)), (1, .ref q9), (2, .long 1907)]) dX1_digest_85 (by decide) [1, 2, 0] rfl ?_
  refine j_aload_n (pc := 86) C dX1_digest_86 1 rfl ?_
  refine j_astore (pc := 87) C (lv' := [(0, .ref (h 0)), (1, .ref q9), (2, .long 1907), (4, .ref q9)]) dX1_digest_87 (by decide) [1, 2, 3, 0] rfl ?_
  refine j_aload (pc := 89) C dX1_digest_89 3 rfl ?_
  refine j_alen (pc := 91) C 10 3 rfl rfl (z := 9) (show nI 9 = zI 9 from by decide +kernel) dX1_digest_91 ?_
  refine j_istore (pc := 92) C (lv' := [(0, .ref (h 0)), (1, .ref q9), (2, .long 1907), (4, .ref q9), (5, .int (zI 9))]) dX1_digest_92 (by decide) [1, 2, 3, 4, 0] rfl ?_
  refine j_iconst (pc := 94) C dX1_digest_94 ?_
  refine j_istore (pc := 95) C (lv' := [(0, .ref (h 0)), (1, .ref q9), (2, .long 1907), (4, .ref q9), (5, .int (zI 9)), (6, .int (zI 0))]) dX1_digest_95 (by decide) [1, 2, 3, 4, 5, 0] rfl ?_
  refine J.pick (lv' := [(0, .ref (h 0)), (2, .long 1907), (4, .ref q9), (5, .int (zI 9)), (6, .int (zI 0))]) [0, 2, 3, 4, 5] rfl ?_
  refine J.cast (ws' := wN h c1 0 L K Dm S lo hi su db dy li so sp (fw (bgn X L lo hi su db S) L (L + 1)) ke se ++ [(q9, .inl (cA9, 9, .inl (zA (upZ (upZ (upZ (upZ (upZ (upZ (upZ (upZ (upZ (fun _ => 0) 0 L) 1 S) 2 dy) 3 li) 4 so) 5 sp) 6 (dNow (fw (bgn X L lo hi su db S) L (L + 1)) L)) 7 (nDry (fw (bgn X L lo hi su db S) L (L + 1)) li L)) 8 (nDamp (fw (bgn X L lo hi su db S) L (L + 1)) li L)))))]) (lv' := [(0, .ref (h 0)), (2, .long (dg (fun j d => d31 d ((upZ (upZ (upZ (upZ (upZ (upZ (upZ (upZ (upZ (fun _ => 0) 0 L) 1 S) 2 dy) 3 li) 4 so) 5 sp) 6 (dNow (fw (bgn X L lo hi su db S) L (L + 1)) L)) 7 (nDry (fw (bgn X L lo hi su db S) L (L + 1)) li L)) 8 (nDamp (fw (bgn X L lo hi su db S) L (L + 1)) li L)) j)) 1907 0)), (4, .ref q9), (5, .int (zI 9)), (6, .int (zI 0))]) ?_ (by rfl) (by rfl) rfl
  refine j_up (fun i : Int => wN h c1 0 L K Dm S lo hi su db dy li so sp (fw (bgn X L lo hi su db S) L (L + 1)) ke se ++ [(q9, .inl (cA9, 9, .inl (zA (upZ (upZ (upZ (upZ (upZ (upZ (upZ (upZ (upZ (fun _ => 0) 0 L) 1 S) 2 dy) 3 li) 4 so) 5 sp) 6 (dNow (fw (bgn X L lo hi su db S) L (L + 1)) L)) 7 (nDry (fw (bgn X L lo hi su db S) L (L + 1)) li L)) 8 (nDamp (fw (bgn X L lo hi su db S) L (L + 1)) li L)))))]) (fun i : Int => [(0, .ref (h 0)), (2, .long (dg (fun j d => d31 d ((upZ (upZ (upZ (upZ (upZ (upZ (upZ (upZ (upZ (fun _ => 0) 0 L) 1 S) 2 dy) 3 li) 4 so) 5 sp) 6 (dNow (fw (bgn X L lo hi su db S) L (L + 1)) L)) 7 (nDry (fw (bgn X L lo hi su db S) L (L + 1)) li L)) 8 (nDamp (fw (bgn X L lo hi su db S) L (L + 1)) li L)) j)) 1907 i)), (4, .ref q9), (5, .int (zI 9)), (6, .int (zI i))]) (fun i : Int => True) 0 9 (by decide) trivial ?_ ?_
  · intro i h0_97 h1_97 hI_97 hk_97
    try dsimp only at hI_97 hk_97 ⊢
    refine j_iload (pc := 97) C dX1_digest_97 4 rfl ?_
    refine j_iload (pc := 99) C dX1_digest_99 3 rfl ?_
    refine j_icmp_ge (pc := 101) C 127 dX1_digest_101 (by decide) ⟨by omega, by omega⟩ ⟨by omega, by omega⟩ (fun c_101 => absurd c_101 (by omega)) (fun c_101 => ?_)
    refine j_aload (pc := 104) C dX1_digest_104 2 rfl ?_
    refine j_iload (pc := 106) C dX1_digest_106 4 rfl ?_
    refine j_iald (pc := 108) C 10 3 rfl rfl (by omega) (by omega) (by decide) dX1_digest_108 ?_
    refine j_istore (pc := 109) C (lv' := [(0, .ref (h 0)), (2, .long (dg (fun j d => d31 d ((upZ (upZ (upZ (upZ (upZ (upZ (upZ (upZ (upZ (fun _ => 0) 0 L) 1 S) 2 dy) 3 li) 4 so) 5 sp) 6 (dNow (fw (bgn X L lo hi su db S) L (L + 1)) L)) 7 (nDry (fw (bgn X L lo hi su db S) L (L + 1)) li L)) 8 (nDamp (fw (bgn X L lo hi su db S) L (L + 1)) li L)) j)) 1907 i)), (4, .ref q9), (5, .int (zI 9)), (6, .int (zI i)), (7, .int (zI ((upZ (upZ (upZ (upZ (upZ (upZ (upZ (upZ (upZ (fun _ => 0) 0 L) 1 S) 2 dy) 3 li) 4 so) 5 sp) 6 (dNow (fw (bgn X L lo hi su db S) L (L + 1)) L)) 7 (nDry (fw (bgn X L lo hi su db S) L (L + 1)) li L)) 8 (nDamp (fw (bgn X L lo hi su db S) L (L + 1)) li L)) i)))]) dX1_digest_109 (by decide) [1, 2, 3, 4, 5, 0] rfl ?_
    refine j_lload_n (pc := 111) C dX1_digest_111 1 rfl ?_
    refine j_ldc2 (pc := 112) C (C.w 10 rfl) dX1_digest_112 ?_
    refine j_lmul (pc := 115) C dX1_digest_115 ?_
    refine j_iload (pc := 116) C dX1_digest_116 5 rfl ?_
    refine j_i2l (pc := 118) C dX1_digest_118 ?_
    refine j_ladd (pc := 119) C dX1_digest_119 ?_
    refine j_lstore_n (pc := 120) C (lv' := [(0, .ref (h 0)), (2, .long (((dg (fun j d => d31 d ((upZ (upZ (upZ (upZ (upZ (upZ (upZ (upZ (upZ (fun _ => 0) 0 L) 1 S) 2 dy) 3 li) 4 so) 5 sp) 6 (dNow (fw (bgn X L lo hi su db S) L (L + 1)) L)) 7 (nDry (fw (bgn X L lo hi su db S) L (L + 1)) li L)) 8 (nDamp (fw (bgn X L lo hi su db S) L (L + 1)) li L)) j)) 1907 i) * 31) + ((zI ((upZ (upZ (upZ (upZ (upZ (upZ (upZ (upZ (upZ (fun _ => 0) 0 L) 1 S) 2 dy) 3 li) 4 so) 5 sp) 6 (dNow (fw (bgn X L lo hi su db S) L (L + 1)) L)) 7 (nDry (fw (bgn X L lo hi su db S) L (L + 1)) li L)) 8 (nDamp (fw (bgn X L lo hi su db S) L (L + 1)) li L)) i)).toInt64))), (4, .ref q9), (5, .int (zI 9)), (6, .int (zI i)), (7, .int (zI ((upZ (upZ (upZ (upZ (upZ (upZ (upZ (upZ (upZ (fun _ => 0) 0 L) 1 S) 2 dy) 3 li) 4 so) 5 sp) 6 (dNow (fw (bgn X L lo hi su db S) L (L + 1)) L)) 7 (nDry (fw (bgn X L lo hi su db S) L (L + 1)) li L)) 8 (nDamp (fw (bgn X L lo hi su db S) L (L + 1)) li L)) i)))]) dX1_digest_120 (by decide) [1, 0, 2, 3, 4, 5] rfl ?_
    refine j_iinc (pc := 121) C (lv' := [(0, .ref (h 0)), (2, .long (((dg (fun j d => d31 d ((upZ (upZ (upZ (upZ (upZ (upZ (upZ (upZ (upZ (fun _ => 0) 0 L) 1 S) 2 dy) 3 li) 4 so) 5 sp) 6 (dNow (fw (bgn X L lo hi su db S) L (L + 1)) L)) 7 (nDry (fw (bgn X L lo hi su db S) L (L + 1)) li L)) 8 (nDamp (fw (bgn X L lo hi su db S) L (L + 1)) li L)) j)) 1907 i) * 31) + ((zI ((upZ (upZ (upZ (upZ (upZ (upZ (upZ (upZ (upZ (fun _ => 0) 0 L) 1 S) 2 dy) 3 li) 4 so) 5 sp) 6 (dNow (fw (bgn X L lo hi su db S) L (L + 1)) L)) 7 (nDry (fw (bgn X L lo hi su db S) L (L + 1)) li L)) 8 (nDamp (fw (bgn X L lo hi su db S) L (L + 1)) li L)) i)).toInt64))), (4, .ref q9), (5, .int (zI 9)), (6, .int (zI (i + 1))), (7, .int (zI ((upZ (upZ (upZ (upZ (upZ (upZ (upZ (upZ (upZ (fun _ => 0) 0 L) 1 S) 2 dy) 3 li) 4 so) 5 sp) 6 (dNow (fw (bgn X L lo hi su db S) L (L + 1)) L)) 7 (nDry (fw (bgn X L lo hi su db S) L (L + 1)) li L)) 8 (nDamp (fw (bgn X L lo hi su db S) L (L + 1)) li L)) i)))]) dX1_digest_121 4 rfl (by decide) [1, 2, 3, 4, 0, 5] rfl ?_
    refine j_goto (pc := 124) C 97 dX1_digest_124 (by decide) ?_
    refine J.pick (lv' := [(0, .ref (h 0)), (2, .long (((dg (fun j d => d31 d ((upZ (upZ (upZ (upZ (upZ (upZ (upZ (upZ (upZ (fun _ => 0) 0 L) 1 S) 2 dy) 3 li) 4 so) 5 sp) 6 (dNow (fw (bgn X L lo hi su db S) L (L + 1)) L)) 7 (nDry (fw (bgn X L lo hi su db S) L (L + 1)) li L)) 8 (nDamp (fw (bgn X L lo hi su db S) L (L + 1)) li L)) j)) 1907 i) * 31) + ((zI ((upZ (upZ (upZ (upZ (upZ (upZ (upZ (upZ (upZ (fun _ => 0) 0 L) 1 S) 2 dy) 3 li) 4 so) 5 sp) 6 (dNow (fw (bgn X L lo hi su db S) L (L + 1)) L)) 7 (nDry (fw (bgn X L lo hi su db S) L (L + 1)) li L)) 8 (nDamp (fw (bgn X L lo hi su db S) L (L + 1)) li L)) i)).toInt64))), (4, .ref q9), (5, .int (zI 9)), (6, .int (zI (i + 1)))]) [0, 1, 2, 3, 4] rfl ?_
    exact J.cast (hk_97 trivial) (by rfl) (by rw [dg_up _ _ i h0_97]; rfl) rfl
  · intro hI_97
    try dsimp only at hI_97 ⊢
    refine j_iload (pc := 97) C dX1_digest_97 4 rfl ?_
    refine j_iload (pc := 99) C dX1_digest_99 3 rfl ?_
    refine j_icmp_ge (pc := 101) C 127 dX1_digest_101 (by decide) ⟨by omega, by omega⟩ ⟨by omega, by omega⟩ (fun c_101 => ?_) (fun c_101 => absurd c_101 (by omega))
    refine j_iconst (pc := 127) C dX1_digest_127 ?_
    refine j_istore (pc := 128) C (lv' := [(0, .ref (h 0)), (2, .long (dg (fun j d => d31 d ((upZ (upZ (upZ (upZ (upZ (upZ (upZ (upZ (upZ (fun _ => 0) 0 L) 1 S) 2 dy) 3 li) 4 so) 5 sp) 6 (dNow (fw (bgn X L lo hi su db S) L (L + 1)) L)) 7 (nDry (fw (bgn X L lo hi su db S) L (L + 1)) li L)) 8 (nDamp (fw (bgn X L lo hi su db S) L (L + 1)) li L)) j)) 1907 9)), (4, .int (zI 0)), (5, .int (zI 9)), (6, .int (zI 9))]) dX1_digest_128 (by decide) [1, 2, 0, 3, 4] rfl ?_
    refine J.pick (lv' := [(0, .ref (h 0)), (2, .long (dg (fun j d => d31 d ((upZ (upZ (upZ (upZ (upZ (upZ (upZ (upZ (upZ (fun _ => 0) 0 L) 1 S) 2 dy) 3 li) 4 so) 5 sp) 6 (dNow (fw (bgn X L lo hi su db S) L (L + 1)) L)) 7 (nDry (fw (bgn X L lo hi su db S) L (L + 1)) li L)) 8 (nDamp (fw (bgn X L lo hi su db S) L (L + 1)) li L)) j)) 1907 9)), (4, .int (zI 0))]) [0, 1, 2] rfl ?_
    refine J.cast (ws' := wN h c1 0 L K Dm S lo hi su db dy li so sp (fw (bgn X L lo hi su db S) L (L + 1)) ke se ++ [(q9, .inl (cA9, 9, .inl (zA (upZ (upZ (upZ (upZ (upZ (upZ (upZ (upZ (upZ (fun _ => 0) 0 L) 1 S) 2 dy) 3 li) 4 so) 5 sp) 6 (dNow (fw (bgn X L lo hi su db S) L (L + 1)) L)) 7 (nDry (fw (bgn X L lo hi su db S) L (L + 1)) li L)) 8 (nDamp (fw (bgn X L lo hi su db S) L (L + 1)) li L)))))]) (lv' := [(0, .ref (h 0)), (2, .long (dg (dgL K Dm (fw (bgn X L lo hi su db S) L (L + 1))) (dg (fun j d => d31 d ((upZ (upZ (upZ (upZ (upZ (upZ (upZ (upZ (upZ (fun _ => 0) 0 L) 1 S) 2 dy) 3 li) 4 so) 5 sp) 6 (dNow (fw (bgn X L lo hi su db S) L (L + 1)) L)) 7 (nDry (fw (bgn X L lo hi su db S) L (L + 1)) li L)) 8 (nDamp (fw (bgn X L lo hi su db S) L (L + 1)) li L)) j)) 1907 9) 0)), (4, .int (zI 0))]) ?_ (by rfl) (by rfl) rfl
    refine j_up (fun i : Int => wN h c1 0 L K Dm S lo hi su db dy li so sp (fw (bgn X L lo hi su db S) L (L + 1)) ke se ++ [(q9, .inl (cA9, 9, .inl (zA (upZ (upZ (upZ (upZ (upZ (upZ (upZ (upZ (upZ (fun _ => 0) 0 L) 1 S) 2 dy) 3 li) 4 so) 5 sp) 6 (dNow (fw (bgn X L lo hi su db S) L (L + 1)) L)) 7 (nDry (fw (bgn X L lo hi su db S) L (L + 1)) li L)) 8 (nDamp (fw (bgn X L lo hi su db S) L (L + 1)) li L)))))]) (fun i : Int => [(0, .ref (h 0)), (2, .long (dg (dgL K Dm (fw (bgn X L lo hi su db S) L (L + 1))) (dg (fun j d => d31 d ((upZ (upZ (upZ (upZ (upZ (upZ (upZ (upZ (upZ (fun _ => 0) 0 L) 1 S) 2 dy) 3 li) 4 so) 5 sp) 6 (dNow (fw (bgn X L lo hi su db S) L (L + 1)) L)) 7 (nDry (fw (bgn X L lo hi su db S) L (L + 1)) li L)) 8 (nDamp (fw (bgn X L lo hi su db S) L (L + 1)) li L)) j)) 1907 9) i)), (4, .int (zI i))]) (fun i : Int => True) 0 L (by omega) trivial ?_ ?_
    · intro i h0_130 h1_130 hI_130 hk_130
      try dsimp only at hI_130 hk_130 ⊢
      refine j_iload (pc := 130) C dX1_digest_130 2 rfl ?_
      refine j_aload_n (pc := 132) C dX1_digest_132 0 rfl ?_
      refine j_get (pc := 133) C (ref := "GrainSiloModel") (T := TX1) (N := 16) hin 0 rfl rfl 1 (by decide) (C.w 3 rfl) rfl rfl dX1_digest_133 ?_
      refine j_icmp_ge (pc := 136) C 201 dX1_digest_136 (by decide) ⟨by omega, by omega⟩ ⟨by omega, by omega⟩ (fun c_136 => absurd c_136 (by omega)) (fun c_136 => ?_)
      refine j_lload_n (pc := 139) C dX1_digest_139 1 rfl ?_
      refine j_ldc2 (pc := 140) C (C.w 10 rfl) dX1_digest_140 ?_
      refine j_lmul (pc := 143) C dX1_digest_143 ?_
      refine j_aload_n (pc := 144) C dX1_digest_144 0 rfl ?_
      refine j_get (pc := 145) C (ref := "GrainSiloModel") (T := TX1) (N := 16) hin 0 rfl rfl 2 (by decide) (C.w 11 rfl) rfl rfl dX1_digest_145 ?_
      refine j_iload (pc := 148) C dX1_digest_148 2 rfl ?_
      refine j_iald (pc := 150) C 1 0 rfl rfl (by omega) (by omega) (by decide) dX1_digest_150 ?_
      refine j_i2l (pc := 151) C dX1_digest_151 ?_
      refine j_ladd (pc := 152) C dX1_digest_152 ?_
      refine j_ldc2 (pc := 153) C (C.w 10 rfl) dX1_digest_153 ?_
      refine j_lmul (pc := 156) C dX1_digest_156 ?_
      refine j_aload_n (pc := 157) C dX1_digest_157 0 rfl ?_
      refine j_get (pc := 158) C (ref := "GrainSiloModel") (T := TX1) (N := 16) hin 0 rfl rfl 3 (by decide) (C.w 12 rfl) rfl rfl dX1_digest_158 ?_
      refine j_iload (pc := 161) C dX1_digest_161 2 rfl ?_
      refine j_iald (pc := 163) C 2 0 rfl rfl (by omega) (by omega) (by decide) dX1_digest_163 ?_
      refine j_i2l (pc := 164) C dX1_digest_164 ?_
      refine j_ladd (pc := 165) C dX1_digest_165 ?_
      refine j_ldc2 (pc := 166) C (C.w 10 rfl) dX1_digest_166 ?_
      refine j_lmul (pc := 169) C dX1_digest_169 ?_
      refine j_aload_n (pc := 170) C dX1_digest_170 0 rfl ?_
      refine j_iload (pc := 171) C dX1_digest_171 2 rfl ?_
      refine j_iload (pc := 173) C dX1_digest_173 2 rfl ?_
      refine j_callFI (pc := 175) C (As := [.int (zI i), .int (zI i)]) (rest := [.long ((((((dg (dgL K Dm (fw (bgn X L lo hi su db S) L (L + 1))) (dg (fun j d => d31 d ((upZ (upZ (upZ (upZ (upZ (upZ (upZ (upZ (upZ (fun _ => 0) 0 L) 1 S) 2 dy) 3 li) 4 so) 5 sp) 6 (dNow (fw (bgn X L lo hi su db S) L (L + 1)) L)) 7 (nDry (fw (bgn X L lo hi su db S) L (L + 1)) li L)) 8 (nDamp (fw (bgn X L lo hi su db S) L (L + 1)) li L)) j)) 1907 9) i) * 31) + ((zI (K i)).toInt64)) * 31) + ((zI (Dm i)).toInt64)) * 31)]) (wr := [(q9, .inl (cA9, 9, .inl (zA (upZ (upZ (upZ (upZ (upZ (upZ (upZ (upZ (upZ (fun _ => 0) 0 L) 1 S) 2 dy) 3 li) 4 so) 5 sp) 6 (dNow (fw (bgn X L lo hi su db S) L (L + 1)) L)) 7 (nDry (fw (bgn X L lo hi su db S) L (L + 1)) li L)) 8 (nDamp (fw (bgn X L lo hi su db S) L (L + 1)) li L)))))]) (kX1_least l D h c1 c2 c3 0 L K Dm S lo hi su db dy li so sp (fw (bgn X L lo hi su db S) L (L + 1)) ke se i i (by omega) (by omega) (by omega) (by omega)) [0, 1, 2] rfl (cwV 2 C.2.2.2.2.1 gX1_digest_X1_least rfl rfl rfl (by decide +kernel) ⟨Nat.le_of_ble_eq_true rfl, Nat.le_of_ble_eq_true rfl⟩) 0 (ci := 1) rfl rfl rfl dX1_digest_175 rfl rfl (Nat.le_of_ble_eq_true rfl) (by decide) ?_
      refine j_i2l (pc := 178) C dX1_digest_178 ?_
      refine j_ladd (pc := 179) C dX1_digest_179 ?_
      refine j_ldc2 (pc := 180) C (C.w 10 rfl) dX1_digest_180 ?_
      refine j_lmul (pc := 183) C dX1_digest_183 ?_
      refine j_aload_n (pc := 184) C dX1_digest_184 0 rfl ?_
      refine j_iload (pc := 185) C dX1_digest_185 2 rfl ?_
      refine j_iload (pc := 187) C dX1_digest_187 2 rfl ?_
      refine j_callFI (pc := 189) C (As := [.int (zI i), .int (zI i)]) (rest := [.long ((((((((dg (dgL K Dm (fw (bgn X L lo hi su db S) L (L + 1))) (dg (fun j d => d31 d ((upZ (upZ (upZ (upZ (upZ (upZ (upZ (upZ (upZ (fun _ => 0) 0 L) 1 S) 2 dy) 3 li) 4 so) 5 sp) 6 (dNow (fw (bgn X L lo hi su db S) L (L + 1)) L)) 7 (nDry (fw (bgn X L lo hi su db S) L (L + 1)) li L)) 8 (nDamp (fw (bgn X L lo hi su db S) L (L + 1)) li L)) j)) 1907 9) i) * 31) + ((zI (K i)).toInt64)) * 31) + ((zI (Dm i)).toInt64)) * 31) + ((zI (-((fw (bgn X L lo hi su db S) L (L + 1)) (i + 1) i))).toInt64)) * 31)]) (wr := [(q9, .inl (cA9, 9, .inl (zA (upZ (upZ (upZ (upZ (upZ (upZ (upZ (upZ (upZ (fun _ => 0) 0 L) 1 S) 2 dy) 3 li) 4 so) 5 sp) 6 (dNow (fw (bgn X L lo hi su db S) L (L + 1)) L)) 7 (nDry (fw (bgn X L lo hi su db S) L (L + 1)) li L)) 8 (nDamp (fw (bgn X L lo hi su db S) L (L + 1)) li L)))))]) (kX1_greatest l D h c1 c2 c3 0 L K Dm S lo hi su db dy li so sp (fw (bgn X L lo hi su db S) L (L + 1)) ke se i i (by omega) (by omega) (by omega) (by omega)) [0, 1, 2] rfl (cwV 2 C.2.2.2.2.1 gX1_digest_X1_greatest rfl rfl rfl (by decide +kernel) ⟨Nat.le_of_ble_eq_true rfl, Nat.le_of_ble_eq_true rfl⟩) 0 (ci := 1) rfl rfl rfl dX1_digest_189 rfl rfl (Nat.le_of_ble_eq_true rfl) (by decide) ?_
      refine j_i2l (pc := 192) C dX1_digest_192 ?_
      refine j_ladd (pc := 193) C dX1_digest_193 ?_
      refine j_lstore_n (pc := 194) C (lv' := [(0, .ref (h 0)), (2, .long (((((((((dg (dgL K Dm (fw (bgn X L lo hi su db S) L (L + 1))) (dg (fun j d => d31 d ((upZ (upZ (upZ (upZ (upZ (upZ (upZ (upZ (upZ (fun _ => 0) 0 L) 1 S) 2 dy) 3 li) 4 so) 5 sp) 6 (dNow (fw (bgn X L lo hi su db S) L (L + 1)) L)) 7 (nDry (fw (bgn X L lo hi su db S) L (L + 1)) li L)) 8 (nDamp (fw (bgn X L lo hi su db S) L (L + 1)) li L)) j)) 1907 9) i) * 31) + ((zI (K i)).toInt64)) * 31) + ((zI (Dm i)).toInt64)) * 31) + ((zI (-((fw (bgn X L lo hi su db S) L (L + 1)) (i + 1) i))).toInt64)) * 31) + ((zI ((fw (bgn X L lo hi su db S) L (L + 1)) i (i + 1))).toInt64))), (4, .int (zI i))]) dX1_digest_194 (by decide) [1, 0, 2] rfl ?_
      refine j_iinc (pc := 195) C (lv' := [(0, .ref (h 0)), (2, .long (((((((((dg (dgL K Dm (fw (bgn X L lo hi su db S) L (L + 1))) (dg (fun j d => d31 d ((upZ (upZ (upZ (upZ (upZ (upZ (upZ (upZ (upZ (fun _ => 0) 0 L) 1 S) 2 dy) 3 li) 4 so) 5 sp) 6 (dNow (fw (bgn X L lo hi su db S) L (L + 1)) L)) 7 (nDry (fw (bgn X L lo hi su db S) L (L + 1)) li L)) 8 (nDamp (fw (bgn X L lo hi su db S) L (L + 1)) li L)) j)) 1907 9) i) * 31) + ((zI (K i)).toInt64)) * 31) + ((zI (Dm i)).toInt64)) * 31) + ((zI (-((fw (bgn X L lo hi su db S) L (L + 1)) (i + 1) i))).toInt64)) * 31) + ((zI ((fw (bgn X L lo hi su db S) L (L + 1)) i (i + 1))).toInt64))), (4, .int (zI (i + 1)))]) dX1_digest_195 2 rfl (by decide) [1, 2, 0] rfl ?_
      refine j_goto (pc := 198) C 130 dX1_digest_198 (by decide) ?_
      exact J.cast (hk_130 trivial) (by rfl) (by rw [dg_up _ _ i h0_130]; rfl) rfl
    · intro hI_130
      try dsimp only at hI_130 ⊢
      refine j_iload (pc := 130) C dX1_digest_130 2 rfl ?_
      refine j_aload_n (pc := 132) C dX1_digest_132 0 rfl ?_
      refine j_get (pc := 133) C (ref := "GrainSiloModel") (T := TX1) (N := 16) hin 0 rfl rfl 1 (by decide) (C.w 3 rfl) rfl rfl dX1_digest_133 ?_
      refine j_icmp_ge (pc := 136) C 201 dX1_digest_136 (by decide) ⟨by omega, by omega⟩ ⟨by omega, by omega⟩ (fun c_136 => ?_) (fun c_136 => absurd c_136 (by omega))
      refine j_iconst (pc := 201) C dX1_digest_201 ?_
      refine j_istore (pc := 202) C (lv' := [(0, .ref (h 0)), (2, .long (dg (dgL K Dm (fw (bgn X L lo hi su db S) L (L + 1))) (dg (fun j d => d31 d ((upZ (upZ (upZ (upZ (upZ (upZ (upZ (upZ (upZ (fun _ => 0) 0 L) 1 S) 2 dy) 3 li) 4 so) 5 sp) 6 (dNow (fw (bgn X L lo hi su db S) L (L + 1)) L)) 7 (nDry (fw (bgn X L lo hi su db S) L (L + 1)) li L)) 8 (nDamp (fw (bgn X L lo hi su db S) L (L + 1)) li L)) j)) 1907 9) L)), (4, .int (zI 0))]) dX1_digest_202 (by decide) [1, 2, 0] rfl ?_
      refine J.cast (ws' := wN h c1 0 L K Dm S lo hi su db dy li so sp (fw (bgn X L lo hi su db S) L (L + 1)) ke se ++ [(q9, .inl (cA9, 9, .inl (zA (upZ (upZ (upZ (upZ (upZ (upZ (upZ (upZ (upZ (fun _ => 0) 0 L) 1 S) 2 dy) 3 li) 4 so) 5 sp) 6 (dNow (fw (bgn X L lo hi su db S) L (L + 1)) L)) 7 (nDry (fw (bgn X L lo hi su db S) L (L + 1)) li L)) 8 (nDamp (fw (bgn X L lo hi su db S) L (L + 1)) li L)))))]) (lv' := [(0, .ref (h 0)), (2, .long (dg (dgS lo hi su db) (dg (dgL K Dm (fw (bgn X L lo hi su db S) L (L + 1))) (dg (fun j d => d31 d ((upZ (upZ (upZ (upZ (upZ (upZ (upZ (upZ (upZ (fun _ => 0) 0 L) 1 S) 2 dy) 3 li) 4 so) 5 sp) 6 (dNow (fw (bgn X L lo hi su db S) L (L + 1)) L)) 7 (nDry (fw (bgn X L lo hi su db S) L (L + 1)) li L)) 8 (nDamp (fw (bgn X L lo hi su db S) L (L + 1)) li L)) j)) 1907 9) L) 0)), (4, .int (zI 0))]) ?_ (by rfl) (by rfl) rfl
      refine j_up (fun i : Int => wN h c1 0 L K Dm S lo hi su db dy li so sp (fw (bgn X L lo hi su db S) L (L + 1)) ke se ++ [(q9, .inl (cA9, 9, .inl (zA (upZ (upZ (upZ (upZ (upZ (upZ (upZ (upZ (upZ (fun _ => 0) 0 L) 1 S) 2 dy) 3 li) 4 so) 5 sp) 6 (dNow (fw (bgn X L lo hi su db S) L (L + 1)) L)) 7 (nDry (fw (bgn X L lo hi su db S) L (L + 1)) li L)) 8 (nDamp (fw (bgn X L lo hi su db S) L (L + 1)) li L)))))]) (fun i : Int => [(0, .ref (h 0)), (2, .long (dg (dgS lo hi su db) (dg (dgL K Dm (fw (bgn X L lo hi su db S) L (L + 1))) (dg (fun j d => d31 d ((upZ (upZ (upZ (upZ (upZ (upZ (upZ (upZ (upZ (fun _ => 0) 0 L) 1 S) 2 dy) 3 li) 4 so) 5 sp) 6 (dNow (fw (bgn X L lo hi su db S) L (L + 1)) L)) 7 (nDry (fw (bgn X L lo hi su db S) L (L + 1)) li L)) 8 (nDamp (fw (bgn X L lo hi su db S) L (L + 1)) li L)) j)) 1907 9) L) i)), (4, .int (zI i))]) (fun i : Int => True) 0 S (by omega) trivial ?_ ?_
      · intro i h0_204 h1_204 hI_204 hk_204
        try dsimp only at hI_204 hk_204 ⊢
        refine j_iload (pc := 204) C dX1_digest_204 2 rfl ?_
        refine j_aload_n (pc := 206) C dX1_digest_206 0 rfl ?_
        refine j_get (pc := 207) C (ref := "GrainSiloModel") (T := TX1) (N := 16) hin 0 rfl rfl 4 (by decide) (C.w 4 rfl) rfl rfl dX1_digest_207 ?_
        refine j_icmp_ge (pc := 210) C 273 dX1_digest_210 (by decide) ⟨by omega, by omega⟩ ⟨by omega, by omega⟩ (fun c_210 => absurd c_210 (by omega)) (fun c_210 => ?_)
        refine j_lload_n (pc := 213) C dX1_digest_213 1 rfl ?_
        refine j_ldc2 (pc := 214) C (C.w 10 rfl) dX1_digest_214 ?_
        refine j_lmul (pc := 217) C dX1_digest_217 ?_
        refine j_aload_n (pc := 218) C dX1_digest_218 0 rfl ?_
        refine j_get (pc := 219) C (ref := "GrainSiloModel") (T := TX1) (N := 16) hin 0 rfl rfl 5 (by decide) (C.w 13 rfl) rfl rfl dX1_digest_219 ?_
        refine j_iload (pc := 222) C dX1_digest_222 2 rfl ?_
        refine j_iald (pc := 224) C 3 0 rfl rfl (by omega) (by omega) (by decide) dX1_digest_224 ?_
        refine j_i2l (pc := 225) C dX1_digest_225 ?_
        refine j_ladd (pc := 226) C dX1_digest_226 ?_
        refine j_ldc2 (pc := 227) C (C.w 10 rfl) dX1_digest_227 ?_
        refine j_lmul (pc := 230) C dX1_digest_230 ?_
        refine j_aload_n (pc := 231) C dX1_digest_231 0 rfl ?_
        refine j_get (pc := 232) C (ref := "GrainSiloModel") (T := TX1) (N := 16) hin 0 rfl rfl 6 (by decide) (C.w 14 rfl) rfl rfl dX1_digest_232 ?_
        refine j_iload (pc := 235) C dX1_digest_235 2 rfl ?_
        refine j_iald (pc := 237) C 4 0 rfl rfl (by omega) (by omega) (by decide) dX1_digest_237 ?_
        refine j_i2l (pc := 238) C dX1_digest_238 ?_
        refine j_ladd (pc := 239) C dX1_digest_239 ?_
        refine j_ldc2 (pc := 240) C (C.w 10 rfl) dX1_digest_240 ?_
        refine j_lmul (pc := 243) C dX1_digest_243 ?_
        refine j_aload_n (pc := 244) C dX1_digest_244 0 rfl ?_
        refine j_get (pc := 245) C (ref := "GrainSiloModel") (T := TX1) (N := 16) hin 0 rfl rfl 7 (by decide) (C.w 15 rfl) rfl rfl dX1_digest_245 ?_
        refine j_iload (pc := 248) C dX1_digest_248 2 rfl ?_
        refine j_iald (pc := 250) C 5 0 rfl rfl (by omega) (by omega) (by decide) dX1_digest_250 ?_
        refine j_i2l (pc := 251) C dX1_digest_251 ?_
        refine j_ladd (pc := 252) C dX1_digest_252 ?_
        refine j_ldc2 (pc := 253) C (C.w 10 rfl) dX1_digest_253 ?_
        refine j_lmul (pc := 256) C dX1_digest_256 ?_
        refine j_aload_n (pc := 257) C dX1_digest_257 0 rfl ?_
        refine j_get (pc := 258) C (ref := "GrainSiloModel") (T := TX1) (N := 16) hin 0 rfl rfl 8 (by decide) (C.w 16 rfl) rfl rfl dX1_digest_258 ?_
        refine j_iload (pc := 261) C dX1_digest_261 2 rfl ?_
        refine j_iald (pc := 263) C 6 0 rfl rfl (by omega) (by omega) (by decide) dX1_digest_263 ?_
        refine j_i2l (pc := 264) C dX1_digest_264 ?_
        refine j_ladd (pc := 265) C dX1_digest_265 ?_
        refine j_lstore_n (pc := 266) C (lv' := [(0, .ref (h 0)), (2, .long (((((((((dg (dgS lo hi su db) (dg (dgL K Dm (fw (bgn X L lo hi su db S) L (L + 1))) (dg (fun j d => d31 d ((upZ (upZ (upZ (upZ (upZ (upZ (upZ (upZ (upZ (fun _ => 0) 0 L) 1 S) 2 dy) 3 li) 4 so) 5 sp) 6 (dNow (fw (bgn X L lo hi su db S) L (L + 1)) L)) 7 (nDry (fw (bgn X L lo hi su db S) L (L + 1)) li L)) 8 (nDamp (fw (bgn X L lo hi su db S) L (L + 1)) li L)) j)) 1907 9) L) i) * 31) + ((zI (lo i)).toInt64)) * 31) + ((zI (hi i)).toInt64)) * 31) + ((zI (su i)).toInt64)) * 31) + ((zI (db i)).toInt64))), (4, .int (zI i))]) dX1_digest_266 (by decide) [1, 0, 2] rfl ?_
        refine j_iinc (pc := 267) C (lv' := [(0, .ref (h 0)), (2, .long (((((((((dg (dgS lo hi su db) (dg (dgL K Dm (fw (bgn X L lo hi su db S) L (L + 1))) (dg (fun j d => d31 d ((upZ (upZ (upZ (upZ (upZ (upZ (upZ (upZ (upZ (fun _ => 0) 0 L) 1 S) 2 dy) 3 li) 4 so) 5 sp) 6 (dNow (fw (bgn X L lo hi su db S) L (L + 1)) L)) 7 (nDry (fw (bgn X L lo hi su db S) L (L + 1)) li L)) 8 (nDamp (fw (bgn X L lo hi su db S) L (L + 1)) li L)) j)) 1907 9) L) i) * 31) + ((zI (lo i)).toInt64)) * 31) + ((zI (hi i)).toInt64)) * 31) + ((zI (su i)).toInt64)) * 31) + ((zI (db i)).toInt64))), (4, .int (zI (i + 1)))]) dX1_digest_267 2 rfl (by decide) [1, 2, 0] rfl ?_
        refine j_goto (pc := 270) C 204 dX1_digest_270 (by decide) ?_
        exact J.cast (hk_204 trivial) (by rfl) (by rw [dg_up _ _ i h0_204]; rfl) rfl
      · intro hI_204
        try dsimp only at hI_204 ⊢
        refine j_iload (pc := 204) C dX1_digest_204 2 rfl ?_
        refine j_aload_n (pc := 206) C dX1_digest_206 0 rfl ?_
        refine j_get (pc := 207) C (ref := "GrainSiloModel") (T := TX1) (N := 16) hin 0 rfl rfl 4 (by decide) (C.w 4 rfl) rfl rfl dX1_digest_207 ?_
        refine j_icmp_ge (pc := 210) C 273 dX1_digest_210 (by decide) ⟨by omega, by omega⟩ ⟨by omega, by omega⟩ (fun c_210 => ?_) (fun c_210 => absurd c_210 (by omega))
        refine j_lload_n (pc := 273) C dX1_digest_273 1 rfl ?_
        refine J.drop ?_
        have C := C0
        exact j_lret (pc := 274) C hr dX1_digest_274 (by rfl) (by rfl) (by decide) (by decide)
