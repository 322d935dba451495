/-! ===== the law's own methods: one call of the class each ===== -/
set_option maxHeartbeats 4000000 in
set_option maxRecDepth 100000 in
theorem kL_fill (l : Launch) (D : va_G) (h : Nat → Nat) (c1 c2 c3 : ClassId) (K Dm : Int → Int) (L : Int) (lo hi su db : Int → Int) (S dy li so sp : Int) (tu ah : Int → Int) (M : Int → Int → Int) (o9 : Nat) (f9 : Nat → Int64) (a b : Int) (h0 : 0 ≤ a) (h1 : a ≤ 4) (h2 : 0 ≤ b) (h3 : b ≤ 40) (hL0 : 0 ≤ L) (hL : L < 12) : cIX l yL_fill wsL_fill ({ frames := 2, cells := 1, slots := 6, locals := 45 }) D (tyS c1 c2 c3) [.ref (h 0), .int (zI a), .int (zI b), .ref o9] (wG h c1 c2 K Dm L lo hi su db S dy li so sp tu ah M ++ [(o9, .inl (c3, 1, .inr (.inl f9)))]) (wG h c1 c2 (upZ K L a) (upZ Dm L b) (L + 1) lo hi su db S dy li so sp tu ah M ++ [(o9, .inl (c3, 1, .inr (.inl (vp_updL f9 0 ((zI L).toInt64)))))]) (zI 0) 1 6 := by
  refine cIX.of (cc := cL_fill) (maxL := 5) (ret := .int) (by decide) rfl (lv := [(0, .ref (h 0)), (1, .int (zI a)), (2, .int (zI b)), (3, .ref o9)]) [0, 1, 2, 3] rfl (Nat.le_of_ble_eq_true rfl) ?_
  intro htr p e s m args below meth c A C hr hx hT
  have C : GC p s m args meth c cL_fill 5 RL wsL_fill D (tyS c1 c2 c3) A := C
  refine j_aload_n (pc := 0) C dL_fill_0 3 rfl ?_
  refine j_iconst (pc := 1) C dL_fill_1 ?_
  refine j_aload_n (pc := 2) C dL_fill_2 0 rfl ?_
  refine j_iload_n (pc := 3) C dL_fill_3 1 rfl ?_
  refine j_iload_n (pc := 4) C dL_fill_4 2 rfl ?_
  refine j_callFI (pc := 5) C (As := [.int (zI a), .int (zI b)]) (rest := [.int (zI 0), .ref o9]) (wr := [(o9, .inl (c3, 1, .inr (.inl f9)))]) (kX0_fill l D h c1 c2 c3 K Dm L lo hi su db S dy li so sp tu ah M a b h0 h1 h2 h3 hL0 hL) [0, 1, 2] rfl (cwV 2 C.2.2.2.2.1 gL_fill_X0_fill rfl rfl rfl (by decide +kernel) ⟨Nat.le_of_ble_eq_true rfl, Nat.le_of_ble_eq_true rfl⟩) 0 (ci := 0) rfl rfl rfl dL_fill_5 rfl rfl (Nat.le_of_ble_eq_true rfl) (by decide) ?_
  refine j_i2l (pc := 8) C dL_fill_8 ?_
  refine j_last (pc := 9) C 23 2 rfl rfl (by decide) (by decide) (ws' := wG h c1 c2 (upZ K L a) (upZ Dm L b) (L + 1) lo hi su db S dy li so sp tu ah M ++ [(o9, .inl (c3, 1, .inr (.inl (vp_updL f9 0 ((zI L).toInt64)))))]) rfl dL_fill_9 ?_
  refine j_goto (pc := 10) C 21 dL_fill_10 (by decide) ?_
  refine j_iconst (pc := 21) C dL_fill_21 ?_
  exact j_iret (pc := 22) C hr dL_fill_22 (by rfl) (by rfl) (by decide) (by decide)
set_option maxHeartbeats 4000000 in
set_option maxRecDepth 100000 in
theorem kL_fill_x1 (l : Launch) (D : va_G) (h : Nat → Nat) (c1 c2 c3 : ClassId) (K Dm : Int → Int) (L : Int) (lo hi su db : Int → Int) (S dy li so sp : Int) (tu ah : Int → Int) (M : Int → Int → Int) (o9 : Nat) (f9 : Nat → Int64) (a b : Int) (ha : zR a) (hb : zR b) (hn : ¬ (0 ≤ a ∧ a ≤ 4 ∧ 0 ≤ b ∧ b ≤ 40)) : cIX l yL_fill wsL_fill ({ frames := 7, cells := 1, slots := 6, locals := 112 }) D (tyS c1 c2 c3) [.ref (h 0), .int (zI a), .int (zI b), .ref o9] (wG h c1 c2 K Dm L lo hi su db S dy li so sp tu ah M ++ [(o9, .inl (c3, 1, .inr (.inl f9)))]) (wG h c1 c2 K Dm L lo hi su db S dy li so sp tu ah M ++ [(o9, .inl (c3, 1, .inr (.inl f9)))]) (zI 1) 1 6 := by
  refine cIX.of (cc := cL_fill) (maxL := 5) (ret := .int) (by decide) rfl (lv := [(0, .ref (h 0)), (1, .int (zI a)), (2, .int (zI b)), (3, .ref o9)]) [0, 1, 2, 3] rfl (Nat.le_of_ble_eq_true rfl) ?_
  intro htr p e s m args below meth c A C hr hx hT
  have C : GC p s m args meth c cL_fill 5 RL wsL_fill D (tyS c1 c2 c3) A := C
  refine j_aload_n (pc := 0) C dL_fill_0 3 rfl ?_
  refine j_iconst (pc := 1) C dL_fill_1 ?_
  refine j_aload_n (pc := 2) C dL_fill_2 0 rfl ?_
  refine j_iload_n (pc := 3) C dL_fill_3 1 rfl ?_
  refine j_iload_n (pc := 4) C dL_fill_4 2 rfl ?_
  refine j_callXI_catch (pc := 5) C htr hx (As := [.int (zI a), .int (zI b)]) (rest := [.int (zI 0), .ref o9]) rfl (xX0_fill_x1 l D h c1 c2 c3 K Dm L lo hi su db S dy li so sp tu ah M a b ha hb hn) (cwV 2 C.2.2.2.2.1 gL_fill_X0_fill rfl rfl rfl (by decide +kernel) ⟨Nat.le_of_ble_eq_true rfl, Nat.le_of_ble_eq_true rfl⟩) 0 (ci := 0) rfl rfl rfl dL_fill_5 rfl rfl (Nat.le_of_ble_eq_true rfl) (by decide) [] ⟨0, 10, 13, 13⟩ [⟨0, 10, 17, 15⟩] hT (fun z hz => absurd hz List.not_mem_nil) (by decide) (by decide) (C.w 1 rfl) (List.mem_of_getElem? (i := 0) rfl) (fun q9 => ?_)
  refine j_astore (pc := 13) C (lv' := [(0, .ref (h 0)), (1, .int (zI a)), (2, .int (zI b)), (3, .ref o9), (4, .ref q9)]) dL_fill_13 (by decide) [1, 2, 3, 4, 0] rfl ?_
  refine j_iconst (pc := 15) C dL_fill_15 ?_
  exact j_iret (pc := 16) C hr dL_fill_16 (by rfl) (by rfl) (by decide) (by decide)
set_option maxHeartbeats 4000000 in
set_option maxRecDepth 100000 in
theorem kL_fill_x2 (l : Launch) (D : va_G) (h : Nat → Nat) (c1 c2 c3 : ClassId) (K Dm : Int → Int) (L : Int) (lo hi su db : Int → Int) (S dy li so sp : Int) (tu ah : Int → Int) (M : Int → Int → Int) (o9 : Nat) (f9 : Nat → Int64) (a b : Int) (h0 : 0 ≤ a) (h1 : a ≤ 4) (h2 : 0 ≤ b) (h3 : b ≤ 40) (hL : L = 12) : cIX l yL_fill wsL_fill ({ frames := 7, cells := 1, slots := 6, locals := 112 }) D (tyS c1 c2 c3) [.ref (h 0), .int (zI a), .int (zI b), .ref o9] (wG h c1 c2 K Dm L lo hi su db S dy li so sp tu ah M ++ [(o9, .inl (c3, 1, .inr (.inl f9)))]) (wG h c1 c2 K Dm L lo hi su db S dy li so sp tu ah M ++ [(o9, .inl (c3, 1, .inr (.inl f9)))]) (zI 2) 1 6 := by
  refine cIX.of (cc := cL_fill) (maxL := 5) (ret := .int) (by decide) rfl (lv := [(0, .ref (h 0)), (1, .int (zI a)), (2, .int (zI b)), (3, .ref o9)]) [0, 1, 2, 3] rfl (Nat.le_of_ble_eq_true rfl) ?_
  intro htr p e s m args below meth c A C hr hx hT
  have C : GC p s m args meth c cL_fill 5 RL wsL_fill D (tyS c1 c2 c3) A := C
  refine j_aload_n (pc := 0) C dL_fill_0 3 rfl ?_
  refine j_iconst (pc := 1) C dL_fill_1 ?_
  refine j_aload_n (pc := 2) C dL_fill_2 0 rfl ?_
  refine j_iload_n (pc := 3) C dL_fill_3 1 rfl ?_
  refine j_iload_n (pc := 4) C dL_fill_4 2 rfl ?_
  refine j_callXI_catch (pc := 5) C htr hx (As := [.int (zI a), .int (zI b)]) (rest := [.int (zI 0), .ref o9]) rfl (xX0_fill_x2 l D h c1 c2 c3 K Dm L lo hi su db S dy li so sp tu ah M a b h0 h1 h2 h3 hL) (cwV 2 C.2.2.2.2.1 gL_fill_X0_fill rfl rfl rfl (by decide +kernel) ⟨Nat.le_of_ble_eq_true rfl, Nat.le_of_ble_eq_true rfl⟩) 0 (ci := 0) rfl rfl rfl dL_fill_5 rfl rfl (Nat.le_of_ble_eq_true rfl) (by decide) [⟨0, 10, 13, 13⟩] ⟨0, 10, 17, 15⟩ [] hT (fun z hz => by obtain rfl := List.mem_singleton.mp hz; exact Or.inr ⟨by decide, _, (C.w 1 rfl), List.mem_of_getElem? (i := 2) rfl⟩) (by decide) (by decide) (C.w 2 rfl) (List.mem_of_getElem? (i := 1) rfl) (fun q9 => ?_)
  refine j_astore (pc := 17) C (lv' := [(0, .ref (h 0)), (1, .int (zI a)), (2, .int (zI b)), (3, .ref o9), (4, .ref q9)]) dL_fill_17 (by decide) [1, 2, 3, 4, 0] rfl ?_
  refine j_iconst (pc := 19) C dL_fill_19 ?_
  exact j_iret (pc := 20) C hr dL_fill_20 (by rfl) (by rfl) (by decide) (by decide)
set_option maxHeartbeats 4000000 in
set_option maxRecDepth 100000 in
theorem kL_letOut (l : Launch) (D : va_G) (h : Nat → Nat) (c1 c2 c3 : ClassId) (K Dm : Int → Int) (L : Int) (lo hi su db : Int → Int) (S dy li so sp : Int) (tu ah : Int → Int) (M : Int → Int → Int) (o9 : Nat) (f9 : Nat → Int64) (hok : okS Dm L lo hi su db S) (hl1 : 1 ≤ L) (l0 : 0 ≤ li) (l1 : li ≤ 40) : cIX l yL_letOut wsL_letOut ({ frames := 4, cells := 1, slots := 6, locals := 87 }) D (tyS c1 c2 c3) [.ref (h 0), .ref o9] (wG h c1 c2 K Dm L lo hi su db S dy li so sp tu ah M ++ [(o9, .inl (c3, 1, .inr (.inl f9)))]) (wG h c1 c2 (shf K L) (shf Dm L) (L - 1) (mix (fun j => (cmp (fun j => decide (0 < mix (fun j => if lo j = 0 ∧ 0 < hi j then 1 else lo j) lo S j)) (mix (fun j => if lo j = 0 ∧ 0 < hi j then 1 else lo j) lo S) S) j - 1) (cmp (fun j => decide (0 < mix (fun j => if lo j = 0 ∧ 0 < hi j then 1 else lo j) lo S j)) (mix (fun j => if lo j = 0 ∧ 0 < hi j then 1 else lo j) lo S) S) (zc (fun j => decide (0 < mix (fun j => if lo j = 0 ∧ 0 < hi j then 1 else lo j) lo S j)) 0 S)) (mix (fun j => (cmp (fun j => decide (0 < mix (fun j => if lo j = 0 ∧ 0 < hi j then 1 else lo j) lo S j)) hi S) j - 1) (cmp (fun j => decide (0 < mix (fun j => if lo j = 0 ∧ 0 < hi j then 1 else lo j) lo S j)) hi S) (zc (fun j => decide (0 < mix (fun j => if lo j = 0 ∧ 0 < hi j then 1 else lo j) lo S j)) 0 S)) (cmp (fun j => decide (0 < mix (fun j => if lo j = 0 ∧ 0 < hi j then 1 else lo j) lo S j)) (mix (fun j => if lo j = 0 ∧ 0 < hi j then su j - (Dm 0) else su j) su S) S) (cmp (fun j => decide (0 < mix (fun j => if lo j = 0 ∧ 0 < hi j then 1 else lo j) lo S j)) db S) (zc (fun j => decide (0 < mix (fun j => if lo j = 0 ∧ 0 < hi j then 1 else lo j) lo S j)) 0 S) dy li (if li < (Dm 0) then so else so + 1) (if li < (Dm 0) then sp + 1 else sp) tu ah M ++ [(o9, .inl (c3, 1, .inr (.inl (vp_updL f9 0 ((zI (Dm 0)).toInt64)))))]) (zI 0) 1 6 := by
  refine cIX.of (cc := cL_letOut) (maxL := 3) (ret := .int) (by decide) rfl (lv := [(0, .ref (h 0)), (1, .ref o9)]) [0, 1] rfl (Nat.le_of_ble_eq_true rfl) ?_
  intro htr p e s m args below meth c A C hr hx hT
  have C : GC p s m args meth c cL_letOut 3 RL wsL_letOut D (tyS c1 c2 c3) A := C
  refine j_aload_n (pc := 0) C dL_letOut_0 1 rfl ?_
  refine j_iconst (pc := 1) C dL_letOut_1 ?_
  refine j_aload_n (pc := 2) C dL_letOut_2 0 rfl ?_
  refine j_callFI (pc := 3) C (As := []) (rest := [.int (zI 0), .ref o9]) (wr := [(o9, .inl (c3, 1, .inr (.inl f9)))]) (kX0_letOut l D h c1 c2 c3 K Dm L lo hi su db S dy li so sp tu ah M  hok hl1 l0 l1) [0, 1, 2] rfl (cwV 0 C.2.2.2.2.1 gL_letOut_X0_letOut rfl rfl rfl (by decide +kernel) ⟨Nat.le_of_ble_eq_true rfl, Nat.le_of_ble_eq_true rfl⟩) 0 (ci := 0) rfl rfl rfl dL_letOut_3 rfl rfl (Nat.le_of_ble_eq_true rfl) (by decide) ?_
  refine j_i2l (pc := 6) C dL_letOut_6 ?_
  refine j_last (pc := 7) C 23 2 rfl rfl (by decide) (by decide) (ws' := wG h c1 c2 (shf K L) (shf Dm L) (L - 1) (mix (fun j => (cmp (fun j => decide (0 < mix (fun j => if lo j = 0 ∧ 0 < hi j then 1 else lo j) lo S j)) (mix (fun j => if lo j = 0 ∧ 0 < hi j then 1 else lo j) lo S) S) j - 1) (cmp (fun j => decide (0 < mix (fun j => if lo j = 0 ∧ 0 < hi j then 1 else lo j) lo S j)) (mix (fun j => if lo j = 0 ∧ 0 < hi j then 1 else lo j) lo S) S) (zc (fun j => decide (0 < mix (fun j => if lo j = 0 ∧ 0 < hi j then 1 else lo j) lo S j)) 0 S)) (mix (fun j => (cmp (fun j => decide (0 < mix (fun j => if lo j = 0 ∧ 0 < hi j then 1 else lo j) lo S j)) hi S) j - 1) (cmp (fun j => decide (0 < mix (fun j => if lo j = 0 ∧ 0 < hi j then 1 else lo j) lo S j)) hi S) (zc (fun j => decide (0 < mix (fun j => if lo j = 0 ∧ 0 < hi j then 1 else lo j) lo S j)) 0 S)) (cmp (fun j => decide (0 < mix (fun j => if lo j = 0 ∧ 0 < hi j then 1 else lo j) lo S j)) (mix (fun j => if lo j = 0 ∧ 0 < hi j then su j - (Dm 0) else su j) su S) S) (cmp (fun j => decide (0 < mix (fun j => if lo j = 0 ∧ 0 < hi j then 1 else lo j) lo S j)) db S) (zc (fun j => decide (0 < mix (fun j => if lo j = 0 ∧ 0 < hi j then 1 else lo j) lo S j)) 0 S) dy li (if li < (Dm 0) then so else so + 1) (if li < (Dm 0) then sp + 1 else sp) tu ah M ++ [(o9, .inl (c3, 1, .inr (.inl (vp_updL f9 0 ((zI (Dm 0)).toInt64)))))]) rfl dL_letOut_7 ?_
  refine j_goto (pc := 8) C 14 dL_letOut_8 (by decide) ?_
  refine j_iconst (pc := 14) C dL_letOut_14 ?_
  exact j_iret (pc := 15) C hr dL_letOut_15 (by rfl) (by rfl) (by decide) (by decide)
set_option maxHeartbeats 4000000 in
set_option maxRecDepth 100000 in
theorem kL_letOut_x1 (l : Launch) (D : va_G) (h : Nat → Nat) (c1 c2 c3 : ClassId) (K Dm : Int → Int) (L : Int) (lo hi su db : Int → Int) (S dy li so sp : Int) (tu ah : Int → Int) (M : Int → Int → Int) (o9 : Nat) (f9 : Nat → Int64) (hL : L = 0) : cIX l yL_letOut wsL_letOut ({ frames := 7, cells := 1, slots := 6, locals := 111 }) D (tyS c1 c2 c3) [.ref (h 0), .ref o9] (wG h c1 c2 K Dm L lo hi su db S dy li so sp tu ah M ++ [(o9, .inl (c3, 1, .inr (.inl f9)))]) (wG h c1 c2 K Dm L lo hi su db S dy li so sp tu ah M ++ [(o9, .inl (c3, 1, .inr (.inl f9)))]) (zI 1) 1 6 := by
  refine cIX.of (cc := cL_letOut) (maxL := 3) (ret := .int) (by decide) rfl (lv := [(0, .ref (h 0)), (1, .ref o9)]) [0, 1] rfl (Nat.le_of_ble_eq_true rfl) ?_
  intro htr p e s m args below meth c A C hr hx hT
  have C : GC p s m args meth c cL_letOut 3 RL wsL_letOut D (tyS c1 c2 c3) A := C
  refine j_aload_n (pc := 0) C dL_letOut_0 1 rfl ?_
  refine j_iconst (pc := 1) C dL_letOut_1 ?_
  refine j_aload_n (pc := 2) C dL_letOut_2 0 rfl ?_
  refine j_callXI_catch (pc := 3) C htr hx (As := []) (rest := [.int (zI 0), .ref o9]) rfl (xX0_letOut_x1 l D h c1 c2 c3 K Dm L lo hi su db S dy li so sp tu ah M  hL) (cwV 0 C.2.2.2.2.1 gL_letOut_X0_letOut rfl rfl rfl (by decide +kernel) ⟨Nat.le_of_ble_eq_true rfl, Nat.le_of_ble_eq_true rfl⟩) 0 (ci := 0) rfl rfl rfl dL_letOut_3 rfl rfl (Nat.le_of_ble_eq_true rfl) (by decide) [] ⟨0, 8, 11, 15⟩ [] hT (fun z hz => absurd hz List.not_mem_nil) (by decide) (by decide) (C.w 1 rfl) (List.mem_of_getElem? (i := 1) rfl) (fun q9 => ?_)
  refine j_astore_n (pc := 11) C (lv' := [(0, .ref (h 0)), (1, .ref o9), (2, .ref q9)]) dL_letOut_11 (by decide) [1, 2, 0] rfl ?_
  refine j_iconst (pc := 12) C dL_letOut_12 ?_
  exact j_iret (pc := 13) C hr dL_letOut_13 (by rfl) (by rfl) (by decide) (by decide)
set_option maxHeartbeats 4000000 in
set_option maxRecDepth 100000 in
theorem kL_turnOver (l : Launch) (D : va_G) (h : Nat → Nat) (c1 c2 c3 : ClassId) (K Dm : Int → Int) (L : Int) (lo hi su db : Int → Int) (S dy li so sp : Int) (tu ah : Int → Int) (M : Int → Int → Int) (o9 : Nat) (f9 : Nat → Int64) (hok : okS Dm L lo hi su db S) (hl1 : 2 ≤ L) : cIX l yL_turnOver wsL_turnOver ({ frames := 3, cells := 1, slots := 6, locals := 67 }) D (tyS c1 c2 c3) [.ref (h 0), .ref o9] (wG h c1 c2 K Dm L lo hi su db S dy li so sp tu ah M ++ [(o9, .inl (c3, 1, .inr (.inl f9)))]) (wG h c1 c2 (upZ (shf K L) (L - 1) (K 0)) (upZ (shf Dm L) (L - 1) (Dm 0)) ((L - 1) + 1) (mix (fun j => (cmp (fun j => decide (0 < lo j)) lo S) j - 1) (cmp (fun j => decide (0 < lo j)) lo S) (zc (fun j => decide (0 < lo j)) 0 S)) (mix (fun j => (cmp (fun j => decide (0 < lo j)) hi S) j - 1) (cmp (fun j => decide (0 < lo j)) hi S) (zc (fun j => decide (0 < lo j)) 0 S)) (cmp (fun j => decide (0 < lo j)) su S) (cmp (fun j => decide (0 < lo j)) db S) (zc (fun j => decide (0 < lo j)) 0 S) dy li so sp tu ah M ++ [(o9, .inl (c3, 1, .inr (.inl (vp_updL f9 0 ((zI (S - (zc (fun j => decide (0 < lo j)) 0 S))).toInt64)))))]) (zI 0) 1 6 := by
  refine cIX.of (cc := cL_turnOver) (maxL := 3) (ret := .int) (by decide) rfl (lv := [(0, .ref (h 0)), (1, .ref o9)]) [0, 1] rfl (Nat.le_of_ble_eq_true rfl) ?_
  intro htr p e s m args below meth c A C hr hx hT
  have C : GC p s m args meth c cL_turnOver 3 RL wsL_turnOver D (tyS c1 c2 c3) A := C
  refine j_aload_n (pc := 0) C dL_turnOver_0 1 rfl ?_
  refine j_iconst (pc := 1) C dL_turnOver_1 ?_
  refine j_aload_n (pc := 2) C dL_turnOver_2 0 rfl ?_
  refine j_callFI (pc := 3) C (As := []) (rest := [.int (zI 0), .ref o9]) (wr := [(o9, .inl (c3, 1, .inr (.inl f9)))]) (kX0_turnOver l D h c1 c2 c3 K Dm L lo hi su db S dy li so sp tu ah M  hok hl1) [0, 1, 2] rfl (cwV 0 C.2.2.2.2.1 gL_turnOver_X0_turnOver rfl rfl rfl (by decide +kernel) ⟨Nat.le_of_ble_eq_true rfl, Nat.le_of_ble_eq_true rfl⟩) 0 (ci := 0) rfl rfl rfl dL_turnOver_3 rfl rfl (Nat.le_of_ble_eq_true rfl) (by decide) ?_
  refine j_i2l (pc := 6) C dL_turnOver_6 ?_
  refine j_last (pc := 7) C 23 2 rfl rfl (by decide) (by decide) (ws' := wG h c1 c2 (upZ (shf K L) (L - 1) (K 0)) (upZ (shf Dm L) (L - 1) (Dm 0)) ((L - 1) + 1) (mix (fun j => (cmp (fun j => decide (0 < lo j)) lo S) j - 1) (cmp (fun j => decide (0 < lo j)) lo S) (zc (fun j => decide (0 < lo j)) 0 S)) (mix (fun j => (cmp (fun j => decide (0 < lo j)) hi S) j - 1) (cmp (fun j => decide (0 < lo j)) hi S) (zc (fun j => decide (0 < lo j)) 0 S)) (cmp (fun j => decide (0 < lo j)) su S) (cmp (fun j => decide (0 < lo j)) db S) (zc (fun j => decide (0 < lo j)) 0 S) dy li so sp tu ah M ++ [(o9, .inl (c3, 1, .inr (.inl (vp_updL f9 0 ((zI (S - (zc (fun j => decide (0 < lo j)) 0 S))).toInt64)))))]) rfl dL_turnOver_7 ?_
  refine j_goto (pc := 8) C 14 dL_turnOver_8 (by decide) ?_
  refine j_iconst (pc := 14) C dL_turnOver_14 ?_
  exact j_iret (pc := 15) C hr dL_turnOver_15 (by rfl) (by rfl) (by decide) (by decide)
set_option maxHeartbeats 4000000 in
set_option maxRecDepth 100000 in
theorem kL_turnOver_x1 (l : Launch) (D : va_G) (h : Nat → Nat) (c1 c2 c3 : ClassId) (K Dm : Int → Int) (L : Int) (lo hi su db : Int → Int) (S dy li so sp : Int) (tu ah : Int → Int) (M : Int → Int → Int) (o9 : Nat) (f9 : Nat → Int64) (hL0 : 0 ≤ L) (hL : L < 2) : cIX l yL_turnOver wsL_turnOver ({ frames := 7, cells := 1, slots := 6, locals := 113 }) D (tyS c1 c2 c3) [.ref (h 0), .ref o9] (wG h c1 c2 K Dm L lo hi su db S dy li so sp tu ah M ++ [(o9, .inl (c3, 1, .inr (.inl f9)))]) (wG h c1 c2 K Dm L lo hi su db S dy li so sp tu ah M ++ [(o9, .inl (c3, 1, .inr (.inl f9)))]) (zI 1) 1 6 := by
  refine cIX.of (cc := cL_turnOver) (maxL := 3) (ret := .int) (by decide) rfl (lv := [(0, .ref (h 0)), (1, .ref o9)]) [0, 1] rfl (Nat.le_of_ble_eq_true rfl) ?_
  intro htr p e s m args below meth c A C hr hx hT
  have C : GC p s m args meth c cL_turnOver 3 RL wsL_turnOver D (tyS c1 c2 c3) A := C
  refine j_aload_n (pc := 0) C dL_turnOver_0 1 rfl ?_
  refine j_iconst (pc := 1) C dL_turnOver_1 ?_
  refine j_aload_n (pc := 2) C dL_turnOver_2 0 rfl ?_
  refine j_callXI_catch (pc := 3) C htr hx (As := []) (rest := [.int (zI 0), .ref o9]) rfl (xX0_turnOver_x1 l D h c1 c2 c3 K Dm L lo hi su db S dy li so sp tu ah M  hL0 hL) (cwV 0 C.2.2.2.2.1 gL_turnOver_X0_turnOver rfl rfl rfl (by decide +kernel) ⟨Nat.le_of_ble_eq_true rfl, Nat.le_of_ble_eq_true rfl⟩) 0 (ci := 0) rfl rfl rfl dL_turnOver_3 rfl rfl (Nat.le_of_ble_eq_true rfl) (by decide) [] ⟨0, 8, 11, 15⟩ [] hT (fun z hz => absurd hz List.not_mem_nil) (by decide) (by decide) (C.w 1 rfl) (List.mem_of_getElem? (i := 1) rfl) (fun q9 => ?_)
  refine j_astore_n (pc := 11) C (lv' := [(0, .ref (h 0)), (1, .ref o9), (2, .ref q9)]) dL_turnOver_11 (by decide) [1, 2, 0] rfl ?_
  refine j_iconst (pc := 12) C dL_turnOver_12 ?_
  exact j_iret (pc := 13) C hr dL_turnOver_13 (by rfl) (by rfl) (by decide) (by decide)
set_option maxHeartbeats 4000000 in
set_option maxRecDepth 100000 in
theorem kL_setLimit (l : Launch) (D : va_G) (h : Nat → Nat) (c1 c2 c3 : ClassId) (K Dm : Int → Int) (L : Int) (lo hi su db : Int → Int) (S dy li so sp : Int) (tu ah : Int → Int) (M : Int → Int → Int) (o9 : Nat) (f9 : Nat → Int64) (a : Int) (h0 : 0 ≤ a) (h1 : a ≤ 40) : cIX l yL_setLimit wsL_setLimit ({ frames := 2, cells := 1, slots := 6, locals := 42 }) D (tyS c1 c2 c3) [.ref (h 0), .int (zI a), .ref o9] (wG h c1 c2 K Dm L lo hi su db S dy li so sp tu ah M ++ [(o9, .inl (c3, 1, .inr (.inl f9)))]) (wG h c1 c2 K Dm L lo hi su db S dy a so sp tu ah M ++ [(o9, .inl (c3, 1, .inr (.inl (vp_updL f9 0 ((zI li).toInt64)))))]) (zI 0) 1 6 := by
  refine cIX.of (cc := cL_setLimit) (maxL := 4) (ret := .int) (by decide) rfl (lv := [(0, .ref (h 0)), (1, .int (zI a)), (2, .ref o9)]) [0, 1, 2] rfl (Nat.le_of_ble_eq_true rfl) ?_
  intro htr p e s m args below meth c A C hr hx hT
  have C : GC p s m args meth c cL_setLimit 4 RL wsL_setLimit D (tyS c1 c2 c3) A := C
  refine j_aload_n (pc := 0) C dL_setLimit_0 2 rfl ?_
  refine j_iconst (pc := 1) C dL_setLimit_1 ?_
  refine j_aload_n (pc := 2) C dL_setLimit_2 0 rfl ?_
  refine j_iload_n (pc := 3) C dL_setLimit_3 1 rfl ?_
  refine j_callFI (pc := 4) C (As := [.int (zI a)]) (rest := [.int (zI 0), .ref o9]) (wr := [(o9, .inl (c3, 1, .inr (.inl f9)))]) (kX0_setLimit l D h c1 c2 c3 K Dm L lo hi su db S dy li so sp tu ah M a h0 h1) [0, 1, 2] rfl (cwV 1 C.2.2.2.2.1 gL_setLimit_X0_setLimit rfl rfl rfl (by decide +kernel) ⟨Nat.le_of_ble_eq_true rfl, Nat.le_of_ble_eq_true rfl⟩) 0 (ci := 0) rfl rfl rfl dL_setLimit_4 rfl rfl (Nat.le_of_ble_eq_true rfl) (by decide) ?_
  refine j_i2l (pc := 7) C dL_setLimit_7 ?_
  refine j_last (pc := 8) C 23 2 rfl rfl (by decide) (by decide) (ws' := wG h c1 c2 K Dm L lo hi su db S dy a so sp tu ah M ++ [(o9, .inl (c3, 1, .inr (.inl (vp_updL f9 0 ((zI li).toInt64)))))]) rfl dL_setLimit_8 ?_
  refine j_goto (pc := 9) C 15 dL_setLimit_9 (by decide) ?_
  refine j_iconst (pc := 15) C dL_setLimit_15 ?_
  exact j_iret (pc := 16) C hr dL_setLimit_16 (by rfl) (by rfl) (by decide) (by decide)
set_option maxHeartbeats 4000000 in
set_option maxRecDepth 100000 in
theorem kL_setLimit_x1 (l : Launch) (D : va_G) (h : Nat → Nat) (c1 c2 c3 : ClassId) (K Dm : Int → Int) (L : Int) (lo hi su db : Int → Int) (S dy li so sp : Int) (tu ah : Int → Int) (M : Int → Int → Int) (o9 : Nat) (f9 : Nat → Int64) (a : Int) (ha : zR a) (hn : ¬ (0 ≤ a ∧ a ≤ 40)) : cIX l yL_setLimit wsL_setLimit ({ frames := 7, cells := 1, slots := 6, locals := 112 }) D (tyS c1 c2 c3) [.ref (h 0), .int (zI a), .ref o9] (wG h c1 c2 K Dm L lo hi su db S dy li so sp tu ah M ++ [(o9, .inl (c3, 1, .inr (.inl f9)))]) (wG h c1 c2 K Dm L lo hi su db S dy li so sp tu ah M ++ [(o9, .inl (c3, 1, .inr (.inl f9)))]) (zI 1) 1 6 := by
  refine cIX.of (cc := cL_setLimit) (maxL := 4) (ret := .int) (by decide) rfl (lv := [(0, .ref (h 0)), (1, .int (zI a)), (2, .ref o9)]) [0, 1, 2] rfl (Nat.le_of_ble_eq_true rfl) ?_
  intro htr p e s m args below meth c A C hr hx hT
  have C : GC p s m args meth c cL_setLimit 4 RL wsL_setLimit D (tyS c1 c2 c3) A := C
  refine j_aload_n (pc := 0) C dL_setLimit_0 2 rfl ?_
  refine j_iconst (pc := 1) C dL_setLimit_1 ?_
  refine j_aload_n (pc := 2) C dL_setLimit_2 0 rfl ?_
  refine j_iload_n (pc := 3) C dL_setLimit_3 1 rfl ?_
  refine j_callXI_catch (pc := 4) C htr hx (As := [.int (zI a)]) (rest := [.int (zI 0), .ref o9]) rfl (xX0_setLimit_x1 l D h c1 c2 c3 K Dm L lo hi su db S dy li so sp tu ah M a ha hn) (cwV 1 C.2.2.2.2.1 gL_setLimit_X0_setLimit rfl rfl rfl (by decide +kernel) ⟨Nat.le_of_ble_eq_true rfl, Nat.le_of_ble_eq_true rfl⟩) 0 (ci := 0) rfl rfl rfl dL_setLimit_4 rfl rfl (Nat.le_of_ble_eq_true rfl) (by decide) [] ⟨0, 9, 12, 13⟩ [] hT (fun z hz => absurd hz List.not_mem_nil) (by decide) (by decide) (C.w 1 rfl) (List.mem_of_getElem? (i := 0) rfl) (fun q9 => ?_)
  refine j_astore_n (pc := 12) C (lv' := [(0, .ref (h 0)), (1, .int (zI a)), (2, .ref o9), (3, .ref q9)]) dL_setLimit_12 (by decide) [1, 2, 3, 0] rfl ?_
  refine j_iconst (pc := 13) C dL_setLimit_13 ?_
  exact j_iret (pc := 14) C hr dL_setLimit_14 (by rfl) (by rfl) (by decide) (by decide)
set_option maxHeartbeats 4000000 in
set_option maxRecDepth 100000 in
theorem kL_pass (l : Launch) (D : va_G) (h : Nat → Nat) (c1 c2 c3 : ClassId) (K Dm : Int → Int) (L : Int) (lo hi su db : Int → Int) (S dy li so sp : Int) (tu ah : Int → Int) (M : Int → Int → Int) (o9 : Nat) (f9 : Nat → Int64) (a : Int) (hok : okS Dm L lo hi su db S) (h0 : 1 ≤ a) (h1 : a ≤ 50) : cIX l yL_pass wsL_pass ({ frames := 5, cells := 1, slots := 6, locals := 116 }) D (tyS c1 c2 c3) [.ref (h 0), .int (zI a), .ref o9] (wG h c1 c2 K Dm L lo hi su db S dy li so sp tu ah M ++ [(o9, .inl (c3, 1, .inr (.inl f9)))]) (wG h c1 c2 K (dayF Dm L a) L lo hi su (mix (fun j => db j + a * (hi j - lo j + 1)) db S) S (dy + a) li so sp (dayT Dm L tu a) ah M ++ [(o9, .inl (c3, 1, .inr (.inl (vp_updL f9 0 ((zI (dayC Dm L a)).toInt64)))))]) (zI 0) 1 6 := by
  refine cIX.of (cc := cL_pass) (maxL := 4) (ret := .int) (by decide) rfl (lv := [(0, .ref (h 0)), (1, .int (zI a)), (2, .ref o9)]) [0, 1, 2] rfl (Nat.le_of_ble_eq_true rfl) ?_
  intro htr p e s m args below meth c A C hr hx hT
  have C : GC p s m args meth c cL_pass 4 RL wsL_pass D (tyS c1 c2 c3) A := C
  refine j_aload_n (pc := 0) C dL_pass_0 2 rfl ?_
  refine j_iconst (pc := 1) C dL_pass_1 ?_
  refine j_aload_n (pc := 2) C dL_pass_2 0 rfl ?_
  refine j_iload_n (pc := 3) C dL_pass_3 1 rfl ?_
  refine j_callFI (pc := 4) C (As := [.int (zI a)]) (rest := [.int (zI 0), .ref o9]) (wr := [(o9, .inl (c3, 1, .inr (.inl f9)))]) (kX0_pass l D h c1 c2 c3 K Dm L lo hi su db S dy li so sp tu ah M a hok h0 h1) [0, 1, 2] rfl (cwV 1 C.2.2.2.2.1 gL_pass_X0_pass rfl rfl rfl (by decide +kernel) ⟨Nat.le_of_ble_eq_true rfl, Nat.le_of_ble_eq_true rfl⟩) 0 (ci := 0) rfl rfl rfl dL_pass_4 rfl rfl (Nat.le_of_ble_eq_true rfl) (by decide) ?_
  refine j_i2l (pc := 7) C dL_pass_7 ?_
  refine j_last (pc := 8) C 23 2 rfl rfl (by decide) (by decide) (ws' := wG h c1 c2 K (dayF Dm L a) L lo hi su (mix (fun j => db j + a * (hi j - lo j + 1)) db S) S (dy + a) li so sp (dayT Dm L tu a) ah M ++ [(o9, .inl (c3, 1, .inr (.inl (vp_updL f9 0 ((zI (dayC Dm L a)).toInt64)))))]) rfl dL_pass_8 ?_
  refine j_goto (pc := 9) C 15 dL_pass_9 (by decide) ?_
  refine j_iconst (pc := 15) C dL_pass_15 ?_
  exact j_iret (pc := 16) C hr dL_pass_16 (by rfl) (by rfl) (by decide) (by decide)
set_option maxHeartbeats 4000000 in
set_option maxRecDepth 100000 in
theorem kL_pass_x1 (l : Launch) (D : va_G) (h : Nat → Nat) (c1 c2 c3 : ClassId) (K Dm : Int → Int) (L : Int) (lo hi su db : Int → Int) (S dy li so sp : Int) (tu ah : Int → Int) (M : Int → Int → Int) (o9 : Nat) (f9 : Nat → Int64) (a : Int) (ha : zR a) (hn : ¬ (1 ≤ a ∧ a ≤ 50)) : cIX l yL_pass wsL_pass ({ frames := 8, cells := 1, slots := 6, locals := 132 }) D (tyS c1 c2 c3) [.ref (h 0), .int (zI a), .ref o9] (wG h c1 c2 K Dm L lo hi su db S dy li so sp tu ah M ++ [(o9, .inl (c3, 1, .inr (.inl f9)))]) (wG h c1 c2 K Dm L lo hi su db S dy li so sp tu ah M ++ [(o9, .inl (c3, 1, .inr (.inl f9)))]) (zI 1) 1 6 := by
  refine cIX.of (cc := cL_pass) (maxL := 4) (ret := .int) (by decide) rfl (lv := [(0, .ref (h 0)), (1, .int (zI a)), (2, .ref o9)]) [0, 1, 2] rfl (Nat.le_of_ble_eq_true rfl) ?_
  intro htr p e s m args below meth c A C hr hx hT
  have C : GC p s m args meth c cL_pass 4 RL wsL_pass D (tyS c1 c2 c3) A := C
  refine j_aload_n (pc := 0) C dL_pass_0 2 rfl ?_
  refine j_iconst (pc := 1) C dL_pass_1 ?_
  refine j_aload_n (pc := 2) C dL_pass_2 0 rfl ?_
  refine j_iload_n (pc := 3) C dL_pass_3 1 rfl ?_
  refine j_callXI_catch (pc := 4) C htr hx (As := [.int (zI a)]) (rest := [.int (zI 0), .ref o9]) rfl (xX0_pass_x1 l D h c1 c2 c3 K Dm L lo hi su db S dy li so sp tu ah M a ha hn) (cwV 1 C.2.2.2.2.1 gL_pass_X0_pass rfl rfl rfl (by decide +kernel) ⟨Nat.le_of_ble_eq_true rfl, Nat.le_of_ble_eq_true rfl⟩) 0 (ci := 0) rfl rfl rfl dL_pass_4 rfl rfl (Nat.le_of_ble_eq_true rfl) (by decide) [] ⟨0, 9, 12, 13⟩ [] hT (fun z hz => absurd hz List.not_mem_nil) (by decide) (by decide) (C.w 1 rfl) (List.mem_of_getElem? (i := 0) rfl) (fun q9 => ?_)
  refine j_astore_n (pc := 12) C (lv' := [(0, .ref (h 0)), (1, .int (zI a)), (2, .ref o9), (3, .ref q9)]) dL_pass_12 (by decide) [1, 2, 3, 0] rfl ?_
  refine j_iconst (pc := 13) C dL_pass_13 ?_
  exact j_iret (pc := 14) C hr dL_pass_14 (by rfl) (by rfl) (by decide) (by decide)
set_option maxHeartbeats 4000000 in
set_option maxRecDepth 100000 in
theorem kL_draw (l : Launch) (D : va_G) (h : Nat → Nat) (c1 c2 c3 : ClassId) (K Dm : Int → Int) (L : Int) (lo hi su db : Int → Int) (S dy li so sp : Int) (tu ah : Int → Int) (M : Int → Int → Int) (o9 : Nat) (f9 : Nat → Int64) (a b : Int) (h0 : 0 ≤ a) (h1 : a ≤ b) (h2 : b < L) (hL : L ≤ 12) (hS0 : 0 ≤ S) (hS : S < 16) : cIX l yL_draw wsL_draw ({ frames := 2, cells := 1, slots := 6, locals := 47 }) D (tyS c1 c2 c3) [.ref (h 0), .int (zI a), .int (zI b), .ref o9] (wG h c1 c2 K Dm L lo hi su db S dy li so sp tu ah M ++ [(o9, .inl (c3, 1, .inr (.inl f9)))]) (wG h c1 c2 K Dm L (upZ lo S a) (upZ hi S b) (upZ su S (zs Dm a (b + 1))) (upZ db S 0) (S + 1) dy li so sp tu ah M ++ [(o9, .inl (c3, 1, .inr (.inl (vp_updL f9 0 ((zI (zs Dm a (b + 1))).toInt64)))))]) (zI 0) 1 6 := by
  refine cIX.of (cc := cL_draw) (maxL := 5) (ret := .int) (by decide) rfl (lv := [(0, .ref (h 0)), (1, .int (zI a)), (2, .int (zI b)), (3, .ref o9)]) [0, 1, 2, 3] rfl (Nat.le_of_ble_eq_true rfl) ?_
  intro htr p e s m args below meth c A C hr hx hT
  have C : GC p s m args meth c cL_draw 5 RL wsL_draw D (tyS c1 c2 c3) A := C
  refine j_aload_n (pc := 0) C dL_draw_0 3 rfl ?_
  refine j_iconst (pc := 1) C dL_draw_1 ?_
  refine j_aload_n (pc := 2) C dL_draw_2 0 rfl ?_
  refine j_iload_n (pc := 3) C dL_draw_3 1 rfl ?_
  refine j_iload_n (pc := 4) C dL_draw_4 2 rfl ?_
  refine j_callFI (pc := 5) C (As := [.int (zI a), .int (zI b)]) (rest := [.int (zI 0), .ref o9]) (wr := [(o9, .inl (c3, 1, .inr (.inl f9)))]) (kX0_draw l D h c1 c2 c3 K Dm L lo hi su db S dy li so sp tu ah M a b h0 h1 h2 hL hS0 hS) [0, 1, 2] rfl (cwV 2 C.2.2.2.2.1 gL_draw_X0_draw rfl rfl rfl (by decide +kernel) ⟨Nat.le_of_ble_eq_true rfl, Nat.le_of_ble_eq_true rfl⟩) 0 (ci := 0) rfl rfl rfl dL_draw_5 rfl rfl (Nat.le_of_ble_eq_true rfl) (by decide) ?_
  refine j_i2l (pc := 8) C dL_draw_8 ?_
  refine j_last (pc := 9) C 23 2 rfl rfl (by decide) (by decide) (ws' := wG h c1 c2 K Dm L (upZ lo S a) (upZ hi S b) (upZ su S (zs Dm a (b + 1))) (upZ db S 0) (S + 1) dy li so sp tu ah M ++ [(o9, .inl (c3, 1, .inr (.inl (vp_updL f9 0 ((zI (zs Dm a (b + 1))).toInt64)))))]) rfl dL_draw_9 ?_
  refine j_goto (pc := 10) C 21 dL_draw_10 (by decide) ?_
  refine j_iconst (pc := 21) C dL_draw_21 ?_
  exact j_iret (pc := 22) C hr dL_draw_22 (by rfl) (by rfl) (by decide) (by decide)
set_option maxHeartbeats 4000000 in
set_option maxRecDepth 100000 in
theorem kL_draw_x1 (l : Launch) (D : va_G) (h : Nat → Nat) (c1 c2 c3 : ClassId) (K Dm : Int → Int) (L : Int) (lo hi su db : Int → Int) (S dy li so sp : Int) (tu ah : Int → Int) (M : Int → Int → Int) (o9 : Nat) (f9 : Nat → Int64) (a b : Int) (hL0 : 0 ≤ L) (hL : L ≤ 12) (ha : zR a) (hb : zR b) (hn : ¬ (0 ≤ a ∧ a ≤ b ∧ b < L)) : cIX l yL_draw wsL_draw ({ frames := 8, cells := 1, slots := 6, locals := 135 }) D (tyS c1 c2 c3) [.ref (h 0), .int (zI a), .int (zI b), .ref o9] (wG h c1 c2 K Dm L lo hi su db S dy li so sp tu ah M ++ [(o9, .inl (c3, 1, .inr (.inl f9)))]) (wG h c1 c2 K Dm L lo hi su db S dy li so sp tu ah M ++ [(o9, .inl (c3, 1, .inr (.inl f9)))]) (zI 1) 1 6 := by
  refine cIX.of (cc := cL_draw) (maxL := 5) (ret := .int) (by decide) rfl (lv := [(0, .ref (h 0)), (1, .int (zI a)), (2, .int (zI b)), (3, .ref o9)]) [0, 1, 2, 3] rfl (Nat.le_of_ble_eq_true rfl) ?_
  intro htr p e s m args below meth c A C hr hx hT
  have C : GC p s m args meth c cL_draw 5 RL wsL_draw D (tyS c1 c2 c3) A := C
  refine j_aload_n (pc := 0) C dL_draw_0 3 rfl ?_
  refine j_iconst (pc := 1) C dL_draw_1 ?_
  refine j_aload_n (pc := 2) C dL_draw_2 0 rfl ?_
  refine j_iload_n (pc := 3) C dL_draw_3 1 rfl ?_
  refine j_iload_n (pc := 4) C dL_draw_4 2 rfl ?_
  refine j_callXI_catch (pc := 5) C htr hx (As := [.int (zI a), .int (zI b)]) (rest := [.int (zI 0), .ref o9]) rfl (xX0_draw_x1 l D h c1 c2 c3 K Dm L lo hi su db S dy li so sp tu ah M a b hL0 hL ha hb hn) (cwV 2 C.2.2.2.2.1 gL_draw_X0_draw rfl rfl rfl (by decide +kernel) ⟨Nat.le_of_ble_eq_true rfl, Nat.le_of_ble_eq_true rfl⟩) 0 (ci := 0) rfl rfl rfl dL_draw_5 rfl rfl (Nat.le_of_ble_eq_true rfl) (by decide) [] ⟨0, 10, 13, 34⟩ [⟨0, 10, 17, 15⟩] hT (fun z hz => absurd hz List.not_mem_nil) (by decide) (by decide) (C.w 1 rfl) (List.mem_of_getElem? (i := 2) rfl) (fun q9 => ?_)
  refine j_astore (pc := 13) C (lv' := [(0, .ref (h 0)), (1, .int (zI a)), (2, .int (zI b)), (3, .ref o9), (4, .ref q9)]) dL_draw_13 (by decide) [1, 2, 3, 4, 0] rfl ?_
  refine j_iconst (pc := 15) C dL_draw_15 ?_
  exact j_iret (pc := 16) C hr dL_draw_16 (by rfl) (by rfl) (by decide) (by decide)
set_option maxHeartbeats 4000000 in
set_option maxRecDepth 100000 in
theorem kL_draw_x2 (l : Launch) (D : va_G) (h : Nat → Nat) (c1 c2 c3 : ClassId) (K Dm : Int → Int) (L : Int) (lo hi su db : Int → Int) (S dy li so sp : Int) (tu ah : Int → Int) (M : Int → Int → Int) (o9 : Nat) (f9 : Nat → Int64) (a b : Int) (h0 : 0 ≤ a) (h1 : a ≤ b) (h2 : b < L) (hL : L ≤ 12) (hS : S = 16) : cIX l yL_draw wsL_draw ({ frames := 7, cells := 1, slots := 6, locals := 113 }) D (tyS c1 c2 c3) [.ref (h 0), .int (zI a), .int (zI b), .ref o9] (wG h c1 c2 K Dm L lo hi su db S dy li so sp tu ah M ++ [(o9, .inl (c3, 1, .inr (.inl f9)))]) (wG h c1 c2 K Dm L lo hi su db S dy li so sp tu ah M ++ [(o9, .inl (c3, 1, .inr (.inl f9)))]) (zI 2) 1 6 := by
  refine cIX.of (cc := cL_draw) (maxL := 5) (ret := .int) (by decide) rfl (lv := [(0, .ref (h 0)), (1, .int (zI a)), (2, .int (zI b)), (3, .ref o9)]) [0, 1, 2, 3] rfl (Nat.le_of_ble_eq_true rfl) ?_
  intro htr p e s m args below meth c A C hr hx hT
  have C : GC p s m args meth c cL_draw 5 RL wsL_draw D (tyS c1 c2 c3) A := C
  refine j_aload_n (pc := 0) C dL_draw_0 3 rfl ?_
  refine j_iconst (pc := 1) C dL_draw_1 ?_
  refine j_aload_n (pc := 2) C dL_draw_2 0 rfl ?_
  refine j_iload_n (pc := 3) C dL_draw_3 1 rfl ?_
  refine j_iload_n (pc := 4) C dL_draw_4 2 rfl ?_
  refine j_callXI_catch (pc := 5) C htr hx (As := [.int (zI a), .int (zI b)]) (rest := [.int (zI 0), .ref o9]) rfl (xX0_draw_x2 l D h c1 c2 c3 K Dm L lo hi su db S dy li so sp tu ah M a b h0 h1 h2 hL hS) (cwV 2 C.2.2.2.2.1 gL_draw_X0_draw rfl rfl rfl (by decide +kernel) ⟨Nat.le_of_ble_eq_true rfl, Nat.le_of_ble_eq_true rfl⟩) 0 (ci := 0) rfl rfl rfl dL_draw_5 rfl rfl (Nat.le_of_ble_eq_true rfl) (by decide) [⟨0, 10, 13, 34⟩] ⟨0, 10, 17, 15⟩ [] hT (fun z hz => by obtain rfl := List.mem_singleton.mp hz; exact Or.inr ⟨by decide, _, (C.w 1 rfl), List.mem_of_getElem? (i := 3) rfl⟩) (by decide) (by decide) (C.w 2 rfl) (List.mem_of_getElem? (i := 1) rfl) (fun q9 => ?_)
  refine j_astore (pc := 17) C (lv' := [(0, .ref (h 0)), (1, .int (zI a)), (2, .int (zI b)), (3, .ref o9), (4, .ref q9)]) dL_draw_17 (by decide) [1, 2, 3, 4, 0] rfl ?_
  refine j_iconst (pc := 19) C dL_draw_19 ?_
  exact j_iret (pc := 20) C hr dL_draw_20 (by rfl) (by rfl) (by decide) (by decide)
set_option maxHeartbeats 4000000 in
set_option maxRecDepth 100000 in
theorem kL_throwAway (l : Launch) (D : va_G) (h : Nat → Nat) (c1 c2 c3 : ClassId) (K Dm : Int → Int) (L : Int) (lo hi su db : Int → Int) (S dy li so sp : Int) (tu ah : Int → Int) (M : Int → Int → Int) (o9 : Nat) (f9 : Nat → Int64) (a : Int) (h0 : 0 ≤ a) (h1 : a < S) (h2 : S ≤ 16) : cIX l yL_throwAway wsL_throwAway ({ frames := 2, cells := 1, slots := 6, locals := 44 }) D (tyS c1 c2 c3) [.ref (h 0), .int (zI a), .ref o9] (wG h c1 c2 K Dm L lo hi su db S dy li so sp tu ah M ++ [(o9, .inl (c3, 1, .inr (.inl f9)))]) (wG h c1 c2 K Dm L (shA lo a S) (shA hi a S) (shA su a S) (shA db a S) (S - 1) dy li so sp tu ah M ++ [(o9, .inl (c3, 1, .inr (.inl (vp_updL f9 0 ((zI (S - 1)).toInt64)))))]) (zI 0) 1 6 := by
  refine cIX.of (cc := cL_throwAway) (maxL := 4) (ret := .int) (by decide) rfl (lv := [(0, .ref (h 0)), (1, .int (zI a)), (2, .ref o9)]) [0, 1, 2] rfl (Nat.le_of_ble_eq_true rfl) ?_
  intro htr p e s m args below meth c A C hr hx hT
  have C : GC p s m args meth c cL_throwAway 4 RL wsL_throwAway D (tyS c1 c2 c3) A := C
  refine j_aload_n (pc := 0) C dL_throwAway_0 2 rfl ?_
  refine j_iconst (pc := 1) C dL_throwAway_1 ?_
  refine j_aload_n (pc := 2) C dL_throwAway_2 0 rfl ?_
  refine j_iload_n (pc := 3) C dL_throwAway_3 1 rfl ?_
  refine j_callFI (pc := 4) C (As := [.int (zI a)]) (rest := [.int (zI 0), .ref o9]) (wr := [(o9, .inl (c3, 1, .inr (.inl f9)))]) (kX0_throwAway l D h c1 c2 c3 K Dm L lo hi su db S dy li so sp tu ah M a h0 h1 h2) [0, 1, 2] rfl (cwV 1 C.2.2.2.2.1 gL_throwAway_X0_throwAway rfl rfl rfl (by decide +kernel) ⟨Nat.le_of_ble_eq_true rfl, Nat.le_of_ble_eq_true rfl⟩) 0 (ci := 0) rfl rfl rfl dL_throwAway_4 rfl rfl (Nat.le_of_ble_eq_true rfl) (by decide) ?_
  refine j_i2l (pc := 7) C dL_throwAway_7 ?_
  refine j_last (pc := 8) C 23 2 rfl rfl (by decide) (by decide) (ws' := wG h c1 c2 K Dm L (shA lo a S) (shA hi a S) (shA su a S) (shA db a S) (S - 1) dy li so sp tu ah M ++ [(o9, .inl (c3, 1, .inr (.inl (vp_updL f9 0 ((zI (S - 1)).toInt64)))))]) rfl dL_throwAway_8 ?_
  refine j_goto (pc := 9) C 15 dL_throwAway_9 (by decide) ?_
  refine j_iconst (pc := 15) C dL_throwAway_15 ?_
  exact j_iret (pc := 16) C hr dL_throwAway_16 (by rfl) (by rfl) (by decide) (by decide)
set_option maxHeartbeats 4000000 in
set_option maxRecDepth 100000 in
theorem kL_throwAway_x1 (l : Launch) (D : va_G) (h : Nat → Nat) (c1 c2 c3 : ClassId) (K Dm : Int → Int) (L : Int) (lo hi su db : Int → Int) (S dy li so sp : Int) (tu ah : Int → Int) (M : Int → Int → Int) (o9 : Nat) (f9 : Nat → Int64) (a : Int) (hS0 : 0 ≤ S) (hS : S ≤ 16) (ha : zR a) (hn : ¬ (0 ≤ a ∧ a < S)) : cIX l yL_throwAway wsL_throwAway ({ frames := 8, cells := 1, slots := 6, locals := 133 }) D (tyS c1 c2 c3) [.ref (h 0), .int (zI a), .ref o9] (wG h c1 c2 K Dm L lo hi su db S dy li so sp tu ah M ++ [(o9, .inl (c3, 1, .inr (.inl f9)))]) (wG h c1 c2 K Dm L lo hi su db S dy li so sp tu ah M ++ [(o9, .inl (c3, 1, .inr (.inl f9)))]) (zI 1) 1 6 := by
  refine cIX.of (cc := cL_throwAway) (maxL := 4) (ret := .int) (by decide) rfl (lv := [(0, .ref (h 0)), (1, .int (zI a)), (2, .ref o9)]) [0, 1, 2] rfl (Nat.le_of_ble_eq_true rfl) ?_
  intro htr p e s m args below meth c A C hr hx hT
  have C : GC p s m args meth c cL_throwAway 4 RL wsL_throwAway D (tyS c1 c2 c3) A := C
  refine j_aload_n (pc := 0) C dL_throwAway_0 2 rfl ?_
  refine j_iconst (pc := 1) C dL_throwAway_1 ?_
  refine j_aload_n (pc := 2) C dL_throwAway_2 0 rfl ?_
  refine j_iload_n (pc := 3) C dL_throwAway_3 1 rfl ?_
  refine j_callXI_catch (pc := 4) C htr hx (As := [.int (zI a)]) (rest := [.int (zI 0), .ref o9]) rfl (xX0_throwAway_x1 l D h c1 c2 c3 K Dm L lo hi su db S dy li so sp tu ah M a hS0 hS ha hn) (cwV 1 C.2.2.2.2.1 gL_throwAway_X0_throwAway rfl rfl rfl (by decide +kernel) ⟨Nat.le_of_ble_eq_true rfl, Nat.le_of_ble_eq_true rfl⟩) 0 (ci := 0) rfl rfl rfl dL_throwAway_4 rfl rfl (Nat.le_of_ble_eq_true rfl) (by decide) [] ⟨0, 9, 12, 34⟩ [] hT (fun z hz => absurd hz List.not_mem_nil) (by decide) (by decide) (C.w 1 rfl) (List.mem_of_getElem? (i := 2) rfl) (fun q9 => ?_)
  refine j_astore_n (pc := 12) C (lv' := [(0, .ref (h 0)), (1, .int (zI a)), (2, .ref o9), (3, .ref q9)]) dL_throwAway_12 (by decide) [1, 2, 3, 0] rfl ?_
  refine j_iconst (pc := 13) C dL_throwAway_13 ?_
  exact j_iret (pc := 14) C hr dL_throwAway_14 (by rfl) (by rfl) (by decide) (by decide)
set_option maxHeartbeats 4000000 in
set_option maxRecDepth 100000 in
theorem kL_lowestOf (l : Launch) (D : va_G) (h : Nat → Nat) (c1 c2 c3 : ClassId) (K Dm : Int → Int) (L : Int) (lo hi su db : Int → Int) (S dy li so sp : Int) (tu ah : Int → Int) (M : Int → Int → Int) (o9 : Nat) (f9 : Nat → Int64) (a : Int) (h0 : 0 ≤ a) (h1 : a < S) (h2 : S ≤ 16) : cIX l yL_lowestOf wsL_lowestOf ({ frames := 2, cells := 1, slots := 6, locals := 42 }) D (tyS c1 c2 c3) [.ref (h 0), .int (zI a), .ref o9] (wG h c1 c2 K Dm L lo hi su db S dy li so sp tu ah M ++ [(o9, .inl (c3, 1, .inr (.inl f9)))]) (wG h c1 c2 K Dm L lo hi su db S dy li so sp tu ah M ++ [(o9, .inl (c3, 1, .inr (.inl (vp_updL f9 0 ((zI (lo a)).toInt64)))))]) (zI 0) 1 6 := by
  refine cIX.of (cc := cL_lowestOf) (maxL := 4) (ret := .int) (by decide) rfl (lv := [(0, .ref (h 0)), (1, .int (zI a)), (2, .ref o9)]) [0, 1, 2] rfl (Nat.le_of_ble_eq_true rfl) ?_
  intro htr p e s m args below meth c A C hr hx hT
  have C : GC p s m args meth c cL_lowestOf 4 RL wsL_lowestOf D (tyS c1 c2 c3) A := C
  refine j_aload_n (pc := 0) C dL_lowestOf_0 2 rfl ?_
  refine j_iconst (pc := 1) C dL_lowestOf_1 ?_
  refine j_aload_n (pc := 2) C dL_lowestOf_2 0 rfl ?_
  refine j_iload_n (pc := 3) C dL_lowestOf_3 1 rfl ?_
  refine j_callFI (pc := 4) C (As := [.int (zI a)]) (rest := [.int (zI 0), .ref o9]) (wr := [(o9, .inl (c3, 1, .inr (.inl f9)))]) (kX0_lowestOf l D h c1 c2 c3 K Dm L lo hi su db S dy li so sp tu ah M a h0 h1 h2) [0, 1, 2] rfl (cwV 1 C.2.2.2.2.1 gL_lowestOf_X0_lowestOf rfl rfl rfl (by decide +kernel) ⟨Nat.le_of_ble_eq_true rfl, Nat.le_of_ble_eq_true rfl⟩) 0 (ci := 0) rfl rfl rfl dL_lowestOf_4 rfl rfl (Nat.le_of_ble_eq_true rfl) (by decide) ?_
  refine j_i2l (pc := 7) C dL_lowestOf_7 ?_
  refine j_last (pc := 8) C 23 2 rfl rfl (by decide) (by decide) (ws' := wG h c1 c2 K Dm L lo hi su db S dy li so sp tu ah M ++ [(o9, .inl (c3, 1, .inr (.inl (vp_updL f9 0 ((zI (lo a)).toInt64)))))]) rfl dL_lowestOf_8 ?_
  refine j_goto (pc := 9) C 15 dL_lowestOf_9 (by decide) ?_
  refine j_iconst (pc := 15) C dL_lowestOf_15 ?_
  exact j_iret (pc := 16) C hr dL_lowestOf_16 (by rfl) (by rfl) (by decide) (by decide)
set_option maxHeartbeats 4000000 in
set_option maxRecDepth 100000 in
theorem kL_lowestOf_x1 (l : Launch) (D : va_G) (h : Nat → Nat) (c1 c2 c3 : ClassId) (K Dm : Int → Int) (L : Int) (lo hi su db : Int → Int) (S dy li so sp : Int) (tu ah : Int → Int) (M : Int → Int → Int) (o9 : Nat) (f9 : Nat → Int64) (a : Int) (hS0 : 0 ≤ S) (hS : S ≤ 16) (ha : zR a) (hn : ¬ (0 ≤ a ∧ a < S)) : cIX l yL_lowestOf wsL_lowestOf ({ frames := 8, cells := 1, slots := 6, locals := 132 }) D (tyS c1 c2 c3) [.ref (h 0), .int (zI a), .ref o9] (wG h c1 c2 K Dm L lo hi su db S dy li so sp tu ah M ++ [(o9, .inl (c3, 1, .inr (.inl f9)))]) (wG h c1 c2 K Dm L lo hi su db S dy li so sp tu ah M ++ [(o9, .inl (c3, 1, .inr (.inl f9)))]) (zI 1) 1 6 := by
  refine cIX.of (cc := cL_lowestOf) (maxL := 4) (ret := .int) (by decide) rfl (lv := [(0, .ref (h 0)), (1, .int (zI a)), (2, .ref o9)]) [0, 1, 2] rfl (Nat.le_of_ble_eq_true rfl) ?_
  intro htr p e s m args below meth c A C hr hx hT
  have C : GC p s m args meth c cL_lowestOf 4 RL wsL_lowestOf D (tyS c1 c2 c3) A := C
  refine j_aload_n (pc := 0) C dL_lowestOf_0 2 rfl ?_
  refine j_iconst (pc := 1) C dL_lowestOf_1 ?_
  refine j_aload_n (pc := 2) C dL_lowestOf_2 0 rfl ?_
  refine j_iload_n (pc := 3) C dL_lowestOf_3 1 rfl ?_
  refine j_callXI_catch (pc := 4) C htr hx (As := [.int (zI a)]) (rest := [.int (zI 0), .ref o9]) rfl (xX0_lowestOf_x1 l D h c1 c2 c3 K Dm L lo hi su db S dy li so sp tu ah M a hS0 hS ha hn) (cwV 1 C.2.2.2.2.1 gL_lowestOf_X0_lowestOf rfl rfl rfl (by decide +kernel) ⟨Nat.le_of_ble_eq_true rfl, Nat.le_of_ble_eq_true rfl⟩) 0 (ci := 0) rfl rfl rfl dL_lowestOf_4 rfl rfl (Nat.le_of_ble_eq_true rfl) (by decide) [] ⟨0, 9, 12, 34⟩ [] hT (fun z hz => absurd hz List.not_mem_nil) (by decide) (by decide) (C.w 1 rfl) (List.mem_of_getElem? (i := 2) rfl) (fun q9 => ?_)
  refine j_astore_n (pc := 12) C (lv' := [(0, .ref (h 0)), (1, .int (zI a)), (2, .ref o9), (3, .ref q9)]) dL_lowestOf_12 (by decide) [1, 2, 3, 0] rfl ?_
  refine j_iconst (pc := 13) C dL_lowestOf_13 ?_
  exact j_iret (pc := 14) C hr dL_lowestOf_14 (by rfl) (by rfl) (by decide) (by decide)
set_option maxHeartbeats 4000000 in
set_option maxRecDepth 100000 in
theorem kL_highestOf (l : Launch) (D : va_G) (h : Nat → Nat) (c1 c2 c3 : ClassId) (K Dm : Int → Int) (L : Int) (lo hi su db : Int → Int) (S dy li so sp : Int) (tu ah : Int → Int) (M : Int → Int → Int) (o9 : Nat) (f9 : Nat → Int64) (a : Int) (h0 : 0 ≤ a) (h1 : a < S) (h2 : S ≤ 16) : cIX l yL_highestOf wsL_highestOf ({ frames := 2, cells := 1, slots := 6, locals := 42 }) D (tyS c1 c2 c3) [.ref (h 0), .int (zI a), .ref o9] (wG h c1 c2 K Dm L lo hi su db S dy li so sp tu ah M ++ [(o9, .inl (c3, 1, .inr (.inl f9)))]) (wG h c1 c2 K Dm L lo hi su db S dy li so sp tu ah M ++ [(o9, .inl (c3, 1, .inr (.inl (vp_updL f9 0 ((zI (hi a)).toInt64)))))]) (zI 0) 1 6 := by
  refine cIX.of (cc := cL_highestOf) (maxL := 4) (ret := .int) (by decide) rfl (lv := [(0, .ref (h 0)), (1, .int (zI a)), (2, .ref o9)]) [0, 1, 2] rfl (Nat.le_of_ble_eq_true rfl) ?_
  intro htr p e s m args below meth c A C hr hx hT
  have C : GC p s m args meth c cL_highestOf 4 RL wsL_highestOf D (tyS c1 c2 c3) A := C
  refine j_aload_n (pc := 0) C dL_highestOf_0 2 rfl ?_
  refine j_iconst (pc := 1) C dL_highestOf_1 ?_
  refine j_aload_n (pc := 2) C dL_highestOf_2 0 rfl ?_
  refine j_iload_n (pc := 3) C dL_highestOf_3 1 rfl ?_
  refine j_callFI (pc := 4) C (As := [.int (zI a)]) (rest := [.int (zI 0), .ref o9]) (wr := [(o9, .inl (c3, 1, .inr (.inl f9)))]) (kX0_highestOf l D h c1 c2 c3 K Dm L lo hi su db S dy li so sp tu ah M a h0 h1 h2) [0, 1, 2] rfl (cwV 1 C.2.2.2.2.1 gL_highestOf_X0_highestOf rfl rfl rfl (by decide +kernel) ⟨Nat.le_of_ble_eq_true rfl, Nat.le_of_ble_eq_true rfl⟩) 0 (ci := 0) rfl rfl rfl dL_highestOf_4 rfl rfl (Nat.le_of_ble_eq_true rfl) (by decide) ?_
  refine j_i2l (pc := 7) C dL_highestOf_7 ?_
  refine j_last (pc := 8) C 23 2 rfl rfl (by decide) (by decide) (ws' := wG h c1 c2 K Dm L lo hi su db S dy li so sp tu ah M ++ [(o9, .inl (c3, 1, .inr (.inl (vp_updL f9 0 ((zI (hi a)).toInt64)))))]) rfl dL_highestOf_8 ?_
  refine j_goto (pc := 9) C 15 dL_highestOf_9 (by decide) ?_
  refine j_iconst (pc := 15) C dL_highestOf_15 ?_
  exact j_iret (pc := 16) C hr dL_highestOf_16 (by rfl) (by rfl) (by decide) (by decide)
set_option maxHeartbeats 4000000 in
set_option maxRecDepth 100000 in
theorem kL_highestOf_x1 (l : Launch) (D : va_G) (h : Nat → Nat) (c1 c2 c3 : ClassId) (K Dm : Int → Int) (L : Int) (lo hi su db : Int → Int) (S dy li so sp : Int) (tu ah : Int → Int) (M : Int → Int → Int) (o9 : Nat) (f9 : Nat → Int64) (a : Int) (hS0 : 0 ≤ S) (hS : S ≤ 16) (ha : zR a) (hn : ¬ (0 ≤ a ∧ a < S)) : cIX l yL_highestOf wsL_highestOf ({ frames := 8, cells := 1, slots := 6, locals := 132 }) D (tyS c1 c2 c3) [.ref (h 0), .int (zI a), .ref o9] (wG h c1 c2 K Dm L lo hi su db S dy li so sp tu ah M ++ [(o9, .inl (c3, 1, .inr (.inl f9)))]) (wG h c1 c2 K Dm L lo hi su db S dy li so sp tu ah M ++ [(o9, .inl (c3, 1, .inr (.inl f9)))]) (zI 1) 1 6 := by
  refine cIX.of (cc := cL_highestOf) (maxL := 4) (ret := .int) (by decide) rfl (lv := [(0, .ref (h 0)), (1, .int (zI a)), (2, .ref o9)]) [0, 1, 2] rfl (Nat.le_of_ble_eq_true rfl) ?_
  intro htr p e s m args below meth c A C hr hx hT
  have C : GC p s m args meth c cL_highestOf 4 RL wsL_highestOf D (tyS c1 c2 c3) A := C
  refine j_aload_n (pc := 0) C dL_highestOf_0 2 rfl ?_
  refine j_iconst (pc := 1) C dL_highestOf_1 ?_
  refine j_aload_n (pc := 2) C dL_highestOf_2 0 rfl ?_
  refine j_iload_n (pc := 3) C dL_highestOf_3 1 rfl ?_
  refine j_callXI_catch (pc := 4) C htr hx (As := [.int (zI a)]) (rest := [.int (zI 0), .ref o9]) rfl (xX0_highestOf_x1 l D h c1 c2 c3 K Dm L lo hi su db S dy li so sp tu ah M a hS0 hS ha hn) (cwV 1 C.2.2.2.2.1 gL_highestOf_X0_highestOf rfl rfl rfl (by decide +kernel) ⟨Nat.le_of_ble_eq_true rfl, Nat.le_of_ble_eq_true rfl⟩) 0 (ci := 0) rfl rfl rfl dL_highestOf_4 rfl rfl (Nat.le_of_ble_eq_true rfl) (by decide) [] ⟨0, 9, 12, 34⟩ [] hT (fun z hz => absurd hz List.not_mem_nil) (by decide) (by decide) (C.w 1 rfl) (List.mem_of_getElem? (i := 2) rfl) (fun q9 => ?_)
  refine j_astore_n (pc := 12) C (lv' := [(0, .ref (h 0)), (1, .int (zI a)), (2, .ref o9), (3, .ref q9)]) dL_highestOf_12 (by decide) [1, 2, 3, 0] rfl ?_
  refine j_iconst (pc := 13) C dL_highestOf_13 ?_
  exact j_iret (pc := 14) C hr dL_highestOf_14 (by rfl) (by rfl) (by decide) (by decide)
set_option maxHeartbeats 4000000 in
set_option maxRecDepth 100000 in
theorem kL_sumOf (l : Launch) (D : va_G) (h : Nat → Nat) (c1 c2 c3 : ClassId) (K Dm : Int → Int) (L : Int) (lo hi su db : Int → Int) (S dy li so sp : Int) (tu ah : Int → Int) (M : Int → Int → Int) (o9 : Nat) (f9 : Nat → Int64) (a : Int) (h0 : 0 ≤ a) (h1 : a < S) (h2 : S ≤ 16) : cIX l yL_sumOf wsL_sumOf ({ frames := 2, cells := 1, slots := 6, locals := 42 }) D (tyS c1 c2 c3) [.ref (h 0), .int (zI a), .ref o9] (wG h c1 c2 K Dm L lo hi su db S dy li so sp tu ah M ++ [(o9, .inl (c3, 1, .inr (.inl f9)))]) (wG h c1 c2 K Dm L lo hi su db S dy li so sp tu ah M ++ [(o9, .inl (c3, 1, .inr (.inl (vp_updL f9 0 ((zI (su a)).toInt64)))))]) (zI 0) 1 6 := by
  refine cIX.of (cc := cL_sumOf) (maxL := 4) (ret := .int) (by decide) rfl (lv := [(0, .ref (h 0)), (1, .int (zI a)), (2, .ref o9)]) [0, 1, 2] rfl (Nat.le_of_ble_eq_true rfl) ?_
  intro htr p e s m args below meth c A C hr hx hT
  have C : GC p s m args meth c cL_sumOf 4 RL wsL_sumOf D (tyS c1 c2 c3) A := C
  refine j_aload_n (pc := 0) C dL_sumOf_0 2 rfl ?_
  refine j_iconst (pc := 1) C dL_sumOf_1 ?_
  refine j_aload_n (pc := 2) C dL_sumOf_2 0 rfl ?_
  refine j_iload_n (pc := 3) C dL_sumOf_3 1 rfl ?_
  refine j_callFI (pc := 4) C (As := [.int (zI a)]) (rest := [.int (zI 0), .ref o9]) (wr := [(o9, .inl (c3, 1, .inr (.inl f9)))]) (kX0_sumOf l D h c1 c2 c3 K Dm L lo hi su db S dy li so sp tu ah M a h0 h1 h2) [0, 1, 2] rfl (cwV 1 C.2.2.2.2.1 gL_sumOf_X0_sumOf rfl rfl rfl (by decide +kernel) ⟨Nat.le_of_ble_eq_true rfl, Nat.le_of_ble_eq_true rfl⟩) 0 (ci := 0) rfl rfl rfl dL_sumOf_4 rfl rfl (Nat.le_of_ble_eq_true rfl) (by decide) ?_
  refine j_i2l (pc := 7) C dL_sumOf_7 ?_
  refine j_last (pc := 8) C 23 2 rfl rfl (by decide) (by decide) (ws' := wG h c1 c2 K Dm L lo hi su db S dy li so sp tu ah M ++ [(o9, .inl (c3, 1, .inr (.inl (vp_updL f9 0 ((zI (su a)).toInt64)))))]) rfl dL_sumOf_8 ?_
  refine j_goto (pc := 9) C 15 dL_sumOf_9 (by decide) ?_
  refine j_iconst (pc := 15) C dL_sumOf_15 ?_
  exact j_iret (pc := 16) C hr dL_sumOf_16 (by rfl) (by rfl) (by decide) (by decide)
set_option maxHeartbeats 4000000 in
set_option maxRecDepth 100000 in
theorem kL_sumOf_x1 (l : Launch) (D : va_G) (h : Nat → Nat) (c1 c2 c3 : ClassId) (K Dm : Int → Int) (L : Int) (lo hi su db : Int → Int) (S dy li so sp : Int) (tu ah : Int → Int) (M : Int → Int → Int) (o9 : Nat) (f9 : Nat → Int64) (a : Int) (hS0 : 0 ≤ S) (hS : S ≤ 16) (ha : zR a) (hn : ¬ (0 ≤ a ∧ a < S)) : cIX l yL_sumOf wsL_sumOf ({ frames := 8, cells := 1, slots := 6, locals := 132 }) D (tyS c1 c2 c3) [.ref (h 0), .int (zI a), .ref o9] (wG h c1 c2 K Dm L lo hi su db S dy li so sp tu ah M ++ [(o9, .inl (c3, 1, .inr (.inl f9)))]) (wG h c1 c2 K Dm L lo hi su db S dy li so sp tu ah M ++ [(o9, .inl (c3, 1, .inr (.inl f9)))]) (zI 1) 1 6 := by
  refine cIX.of (cc := cL_sumOf) (maxL := 4) (ret := .int) (by decide) rfl (lv := [(0, .ref (h 0)), (1, .int (zI a)), (2, .ref o9)]) [0, 1, 2] rfl (Nat.le_of_ble_eq_true rfl) ?_
  intro htr p e s m args below meth c A C hr hx hT
  have C : GC p s m args meth c cL_sumOf 4 RL wsL_sumOf D (tyS c1 c2 c3) A := C
  refine j_aload_n (pc := 0) C dL_sumOf_0 2 rfl ?_
  refine j_iconst (pc := 1) C dL_sumOf_1 ?_
  refine j_aload_n (pc := 2) C dL_sumOf_2 0 rfl ?_
  refine j_iload_n (pc := 3) C dL_sumOf_3 1 rfl ?_
  refine j_callXI_catch (pc := 4) C htr hx (As := [.int (zI a)]) (rest := [.int (zI 0), .ref o9]) rfl (xX0_sumOf_x1 l D h c1 c2 c3 K Dm L lo hi su db S dy li so sp tu ah M a hS0 hS ha hn) (cwV 1 C.2.2.2.2.1 gL_sumOf_X0_sumOf rfl rfl rfl (by decide +kernel) ⟨Nat.le_of_ble_eq_true rfl, Nat.le_of_ble_eq_true rfl⟩) 0 (ci := 0) rfl rfl rfl dL_sumOf_4 rfl rfl (Nat.le_of_ble_eq_true rfl) (by decide) [] ⟨0, 9, 12, 34⟩ [] hT (fun z hz => absurd hz List.not_mem_nil) (by decide) (by decide) (C.w 1 rfl) (List.mem_of_getElem? (i := 2) rfl) (fun q9 => ?_)
  refine j_astore_n (pc := 12) C (lv' := [(0, .ref (h 0)), (1, .int (zI a)), (2, .ref o9), (3, .ref q9)]) dL_sumOf_12 (by decide) [1, 2, 3, 0] rfl ?_
  refine j_iconst (pc := 13) C dL_sumOf_13 ?_
  exact j_iret (pc := 14) C hr dL_sumOf_14 (by rfl) (by rfl) (by decide) (by decide)
set_option maxHeartbeats 4000000 in
set_option maxRecDepth 100000 in
theorem kL_doubtOf (l : Launch) (D : va_G) (h : Nat → Nat) (c1 c2 c3 : ClassId) (K Dm : Int → Int) (L : Int) (lo hi su db : Int → Int) (S dy li so sp : Int) (tu ah : Int → Int) (M : Int → Int → Int) (o9 : Nat) (f9 : Nat → Int64) (a : Int) (h0 : 0 ≤ a) (h1 : a < S) (h2 : S ≤ 16) : cIX l yL_doubtOf wsL_doubtOf ({ frames := 2, cells := 1, slots := 6, locals := 42 }) D (tyS c1 c2 c3) [.ref (h 0), .int (zI a), .ref o9] (wG h c1 c2 K Dm L lo hi su db S dy li so sp tu ah M ++ [(o9, .inl (c3, 1, .inr (.inl f9)))]) (wG h c1 c2 K Dm L lo hi su db S dy li so sp tu ah M ++ [(o9, .inl (c3, 1, .inr (.inl (vp_updL f9 0 ((zI (db a)).toInt64)))))]) (zI 0) 1 6 := by
  refine cIX.of (cc := cL_doubtOf) (maxL := 4) (ret := .int) (by decide) rfl (lv := [(0, .ref (h 0)), (1, .int (zI a)), (2, .ref o9)]) [0, 1, 2] rfl (Nat.le_of_ble_eq_true rfl) ?_
  intro htr p e s m args below meth c A C hr hx hT
  have C : GC p s m args meth c cL_doubtOf 4 RL wsL_doubtOf D (tyS c1 c2 c3) A := C
  refine j_aload_n (pc := 0) C dL_doubtOf_0 2 rfl ?_
  refine j_iconst (pc := 1) C dL_doubtOf_1 ?_
  refine j_aload_n (pc := 2) C dL_doubtOf_2 0 rfl ?_
  refine j_iload_n (pc := 3) C dL_doubtOf_3 1 rfl ?_
  refine j_callFI (pc := 4) C (As := [.int (zI a)]) (rest := [.int (zI 0), .ref o9]) (wr := [(o9, .inl (c3, 1, .inr (.inl f9)))]) (kX0_doubtOf l D h c1 c2 c3 K Dm L lo hi su db S dy li so sp tu ah M a h0 h1 h2) [0, 1, 2] rfl (cwV 1 C.2.2.2.2.1 gL_doubtOf_X0_doubtOf rfl rfl rfl (by decide +kernel) ⟨Nat.le_of_ble_eq_true rfl, Nat.le_of_ble_eq_true rfl⟩) 0 (ci := 0) rfl rfl rfl dL_doubtOf_4 rfl rfl (Nat.le_of_ble_eq_true rfl) (by decide) ?_
  refine j_i2l (pc := 7) C dL_doubtOf_7 ?_
  refine j_last (pc := 8) C 23 2 rfl rfl (by decide) (by decide) (ws' := wG h c1 c2 K Dm L lo hi su db S dy li so sp tu ah M ++ [(o9, .inl (c3, 1, .inr (.inl (vp_updL f9 0 ((zI (db a)).toInt64)))))]) rfl dL_doubtOf_8 ?_
  refine j_goto (pc := 9) C 15 dL_doubtOf_9 (by decide) ?_
  refine j_iconst (pc := 15) C dL_doubtOf_15 ?_
  exact j_iret (pc := 16) C hr dL_doubtOf_16 (by rfl) (by rfl) (by decide) (by decide)
set_option maxHeartbeats 4000000 in
set_option maxRecDepth 100000 in
theorem kL_doubtOf_x1 (l : Launch) (D : va_G) (h : Nat → Nat) (c1 c2 c3 : ClassId) (K Dm : Int → Int) (L : Int) (lo hi su db : Int → Int) (S dy li so sp : Int) (tu ah : Int → Int) (M : Int → Int → Int) (o9 : Nat) (f9 : Nat → Int64) (a : Int) (hS0 : 0 ≤ S) (hS : S ≤ 16) (ha : zR a) (hn : ¬ (0 ≤ a ∧ a < S)) : cIX l yL_doubtOf wsL_doubtOf ({ frames := 8, cells := 1, slots := 6, locals := 132 }) D (tyS c1 c2 c3) [.ref (h 0), .int (zI a), .ref o9] (wG h c1 c2 K Dm L lo hi su db S dy li so sp tu ah M ++ [(o9, .inl (c3, 1, .inr (.inl f9)))]) (wG h c1 c2 K Dm L lo hi su db S dy li so sp tu ah M ++ [(o9, .inl (c3, 1, .inr (.inl f9)))]) (zI 1) 1 6 := by
  refine cIX.of (cc := cL_doubtOf) (maxL := 4) (ret := .int) (by decide) rfl (lv := [(0, .ref (h 0)), (1, .int (zI a)), (2, .ref o9)]) [0, 1, 2] rfl (Nat.le_of_ble_eq_true rfl) ?_
  intro htr p e s m args below meth c A C hr hx hT
  have C : GC p s m args meth c cL_doubtOf 4 RL wsL_doubtOf D (tyS c1 c2 c3) A := C
  refine j_aload_n (pc := 0) C dL_doubtOf_0 2 rfl ?_
  refine j_iconst (pc := 1) C dL_doubtOf_1 ?_
  refine j_aload_n (pc := 2) C dL_doubtOf_2 0 rfl ?_
  refine j_iload_n (pc := 3) C dL_doubtOf_3 1 rfl ?_
  refine j_callXI_catch (pc := 4) C htr hx (As := [.int (zI a)]) (rest := [.int (zI 0), .ref o9]) rfl (xX0_doubtOf_x1 l D h c1 c2 c3 K Dm L lo hi su db S dy li so sp tu ah M a hS0 hS ha hn) (cwV 1 C.2.2.2.2.1 gL_doubtOf_X0_doubtOf rfl rfl rfl (by decide +kernel) ⟨Nat.le_of_ble_eq_true rfl, Nat.le_of_ble_eq_true rfl⟩) 0 (ci := 0) rfl rfl rfl dL_doubtOf_4 rfl rfl (Nat.le_of_ble_eq_true rfl) (by decide) [] ⟨0, 9, 12, 34⟩ [] hT (fun z hz => absurd hz List.not_mem_nil) (by decide) (by decide) (C.w 1 rfl) (List.mem_of_getElem? (i := 2) rfl) (fun q9 => ?_)
  refine j_astore_n (pc := 12) C (lv' := [(0, .ref (h 0)), (1, .int (zI a)), (2, .ref o9), (3, .ref q9)]) dL_doubtOf_12 (by decide) [1, 2, 3, 0] rfl ?_
  refine j_iconst (pc := 13) C dL_doubtOf_13 ?_
  exact j_iret (pc := 14) C hr dL_doubtOf_14 (by rfl) (by rfl) (by decide) (by decide)
set_option maxHeartbeats 4000000 in
set_option maxRecDepth 100000 in
theorem kL_kindOf (l : Launch) (D : va_G) (h : Nat → Nat) (c1 c2 c3 : ClassId) (K Dm : Int → Int) (L : Int) (lo hi su db : Int → Int) (S dy li so sp : Int) (tu ah : Int → Int) (M : Int → Int → Int) (o9 : Nat) (f9 : Nat → Int64) (a : Int) (h0 : 0 ≤ a) (h1 : a < L) (h2 : L ≤ 12) : cIX l yL_kindOf wsL_kindOf ({ frames := 2, cells := 1, slots := 6, locals := 42 }) D (tyS c1 c2 c3) [.ref (h 0), .int (zI a), .ref o9] (wG h c1 c2 K Dm L lo hi su db S dy li so sp tu ah M ++ [(o9, .inl (c3, 1, .inr (.inl f9)))]) (wG h c1 c2 K Dm L lo hi su db S dy li so sp tu ah M ++ [(o9, .inl (c3, 1, .inr (.inl (vp_updL f9 0 ((zI (K a)).toInt64)))))]) (zI 0) 1 6 := by
  refine cIX.of (cc := cL_kindOf) (maxL := 4) (ret := .int) (by decide) rfl (lv := [(0, .ref (h 0)), (1, .int (zI a)), (2, .ref o9)]) [0, 1, 2] rfl (Nat.le_of_ble_eq_true rfl) ?_
  intro htr p e s m args below meth c A C hr hx hT
  have C : GC p s m args meth c cL_kindOf 4 RL wsL_kindOf D (tyS c1 c2 c3) A := C
  refine j_aload_n (pc := 0) C dL_kindOf_0 2 rfl ?_
  refine j_iconst (pc := 1) C dL_kindOf_1 ?_
  refine j_aload_n (pc := 2) C dL_kindOf_2 0 rfl ?_
  refine j_iload_n (pc := 3) C dL_kindOf_3 1 rfl ?_
  refine j_callFI (pc := 4) C (As := [.int (zI a)]) (rest := [.int (zI 0), .ref o9]) (wr := [(o9, .inl (c3, 1, .inr (.inl f9)))]) (kX0_kindOf l D h c1 c2 c3 K Dm L lo hi su db S dy li so sp tu ah M a h0 h1 h2) [0, 1, 2] rfl (cwV 1 C.2.2.2.2.1 gL_kindOf_X0_kindOf rfl rfl rfl (by decide +kernel) ⟨Nat.le_of_ble_eq_true rfl, Nat.le_of_ble_eq_true rfl⟩) 0 (ci := 0) rfl rfl rfl dL_kindOf_4 rfl rfl (Nat.le_of_ble_eq_true rfl) (by decide) ?_
  refine j_i2l (pc := 7) C dL_kindOf_7 ?_
  refine j_last (pc := 8) C 23 2 rfl rfl (by decide) (by decide) (ws' := wG h c1 c2 K Dm L lo hi su db S dy li so sp tu ah M ++ [(o9, .inl (c3, 1, .inr (.inl (vp_updL f9 0 ((zI (K a)).toInt64)))))]) rfl dL_kindOf_8 ?_
  refine j_goto (pc := 9) C 15 dL_kindOf_9 (by decide) ?_
  refine j_iconst (pc := 15) C dL_kindOf_15 ?_
  exact j_iret (pc := 16) C hr dL_kindOf_16 (by rfl) (by rfl) (by decide) (by decide)
set_option maxHeartbeats 4000000 in
set_option maxRecDepth 100000 in
theorem kL_kindOf_x1 (l : Launch) (D : va_G) (h : Nat → Nat) (c1 c2 c3 : ClassId) (K Dm : Int → Int) (L : Int) (lo hi su db : Int → Int) (S dy li so sp : Int) (tu ah : Int → Int) (M : Int → Int → Int) (o9 : Nat) (f9 : Nat → Int64) (a : Int) (hL0 : 0 ≤ L) (hL : L ≤ 12) (ha : zR a) (hn : ¬ (0 ≤ a ∧ a < L)) : cIX l yL_kindOf wsL_kindOf ({ frames := 8, cells := 1, slots := 6, locals := 132 }) D (tyS c1 c2 c3) [.ref (h 0), .int (zI a), .ref o9] (wG h c1 c2 K Dm L lo hi su db S dy li so sp tu ah M ++ [(o9, .inl (c3, 1, .inr (.inl f9)))]) (wG h c1 c2 K Dm L lo hi su db S dy li so sp tu ah M ++ [(o9, .inl (c3, 1, .inr (.inl f9)))]) (zI 1) 1 6 := by
  refine cIX.of (cc := cL_kindOf) (maxL := 4) (ret := .int) (by decide) rfl (lv := [(0, .ref (h 0)), (1, .int (zI a)), (2, .ref o9)]) [0, 1, 2] rfl (Nat.le_of_ble_eq_true rfl) ?_
  intro htr p e s m args below meth c A C hr hx hT
  have C : GC p s m args meth c cL_kindOf 4 RL wsL_kindOf D (tyS c1 c2 c3) A := C
  refine j_aload_n (pc := 0) C dL_kindOf_0 2 rfl ?_
  refine j_iconst (pc := 1) C dL_kindOf_1 ?_
  refine j_aload_n (pc := 2) C dL_kindOf_2 0 rfl ?_
  refine j_iload_n (pc := 3) C dL_kindOf_3 1 rfl ?_
  refine j_callXI_catch (pc := 4) C htr hx (As := [.int (zI a)]) (rest := [.int (zI 0), .ref o9]) rfl (xX0_kindOf_x1 l D h c1 c2 c3 K Dm L lo hi su db S dy li so sp tu ah M a hL0 hL ha hn) (cwV 1 C.2.2.2.2.1 gL_kindOf_X0_kindOf rfl rfl rfl (by decide +kernel) ⟨Nat.le_of_ble_eq_true rfl, Nat.le_of_ble_eq_true rfl⟩) 0 (ci := 0) rfl rfl rfl dL_kindOf_4 rfl rfl (Nat.le_of_ble_eq_true rfl) (by decide) [] ⟨0, 9, 12, 34⟩ [] hT (fun z hz => absurd hz List.not_mem_nil) (by decide) (by decide) (C.w 1 rfl) (List.mem_of_getElem? (i := 2) rfl) (fun q9 => ?_)
  refine j_astore_n (pc := 12) C (lv' := [(0, .ref (h 0)), (1, .int (zI a)), (2, .ref o9), (3, .ref q9)]) dL_kindOf_12 (by decide) [1, 2, 3, 0] rfl ?_
  refine j_iconst (pc := 13) C dL_kindOf_13 ?_
  exact j_iret (pc := 14) C hr dL_kindOf_14 (by rfl) (by rfl) (by decide) (by decide)
set_option maxHeartbeats 4000000 in
set_option maxRecDepth 100000 in
theorem kL_dampnessOf (l : Launch) (D : va_G) (h : Nat → Nat) (c1 c2 c3 : ClassId) (K Dm : Int → Int) (L : Int) (lo hi su db : Int → Int) (S dy li so sp : Int) (tu ah : Int → Int) (M : Int → Int → Int) (o9 : Nat) (f9 : Nat → Int64) (a : Int) (h0 : 0 ≤ a) (h1 : a < L) (h2 : L ≤ 12) : cIX l yL_dampnessOf wsL_dampnessOf ({ frames := 2, cells := 1, slots := 6, locals := 42 }) D (tyS c1 c2 c3) [.ref (h 0), .int (zI a), .ref o9] (wG h c1 c2 K Dm L lo hi su db S dy li so sp tu ah M ++ [(o9, .inl (c3, 1, .inr (.inl f9)))]) (wG h c1 c2 K Dm L lo hi su db S dy li so sp tu ah M ++ [(o9, .inl (c3, 1, .inr (.inl (vp_updL f9 0 ((zI (Dm a)).toInt64)))))]) (zI 0) 1 6 := by
  refine cIX.of (cc := cL_dampnessOf) (maxL := 4) (ret := .int) (by decide) rfl (lv := [(0, .ref (h 0)), (1, .int (zI a)), (2, .ref o9)]) [0, 1, 2] rfl (Nat.le_of_ble_eq_true rfl) ?_
  intro htr p e s m args below meth c A C hr hx hT
  have C : GC p s m args meth c cL_dampnessOf 4 RL wsL_dampnessOf D (tyS c1 c2 c3) A := C
  refine j_aload_n (pc := 0) C dL_dampnessOf_0 2 rfl ?_
  refine j_iconst (pc := 1) C dL_dampnessOf_1 ?_
  refine j_aload_n (pc := 2) C dL_dampnessOf_2 0 rfl ?_
  refine j_iload_n (pc := 3) C dL_dampnessOf_3 1 rfl ?_
  refine j_callFI (pc := 4) C (As := [.int (zI a)]) (rest := [.int (zI 0), .ref o9]) (wr := [(o9, .inl (c3, 1, .inr (.inl f9)))]) (kX0_dampnessOf l D h c1 c2 c3 K Dm L lo hi su db S dy li so sp tu ah M a h0 h1 h2) [0, 1, 2] rfl (cwV 1 C.2.2.2.2.1 gL_dampnessOf_X0_dampnessOf rfl rfl rfl (by decide +kernel) ⟨Nat.le_of_ble_eq_true rfl, Nat.le_of_ble_eq_true rfl⟩) 0 (ci := 0) rfl rfl rfl dL_dampnessOf_4 rfl rfl (Nat.le_of_ble_eq_true rfl) (by decide) ?_
  refine j_i2l (pc := 7) C dL_dampnessOf_7 ?_
  refine j_last (pc := 8) C 23 2 rfl rfl (by decide) (by decide) (ws' := wG h c1 c2 K Dm L lo hi su db S dy li so sp tu ah M ++ [(o9, .inl (c3, 1, .inr (.inl (vp_updL f9 0 ((zI (Dm a)).toInt64)))))]) rfl dL_dampnessOf_8 ?_
  refine j_goto (pc := 9) C 15 dL_dampnessOf_9 (by decide) ?_
  refine j_iconst (pc := 15) C dL_dampnessOf_15 ?_
  exact j_iret (pc := 16) C hr dL_dampnessOf_16 (by rfl) (by rfl) (by decide) (by decide)
set_option maxHeartbeats 4000000 in
set_option maxRecDepth 100000 in
theorem kL_dampnessOf_x1 (l : Launch) (D : va_G) (h : Nat → Nat) (c1 c2 c3 : ClassId) (K Dm : Int → Int) (L : Int) (lo hi su db : Int → Int) (S dy li so sp : Int) (tu ah : Int → Int) (M : Int → Int → Int) (o9 : Nat) (f9 : Nat → Int64) (a : Int) (hL0 : 0 ≤ L) (hL : L ≤ 12) (ha : zR a) (hn : ¬ (0 ≤ a ∧ a < L)) : cIX l yL_dampnessOf wsL_dampnessOf ({ frames := 8, cells := 1, slots := 6, locals := 132 }) D (tyS c1 c2 c3) [.ref (h 0), .int (zI a), .ref o9] (wG h c1 c2 K Dm L lo hi su db S dy li so sp tu ah M ++ [(o9, .inl (c3, 1, .inr (.inl f9)))]) (wG h c1 c2 K Dm L lo hi su db S dy li so sp tu ah M ++ [(o9, .inl (c3, 1, .inr (.inl f9)))]) (zI 1) 1 6 := by
  refine cIX.of (cc := cL_dampnessOf) (maxL := 4) (ret := .int) (by decide) rfl (lv := [(0, .ref (h 0)), (1, .int (zI a)), (2, .ref o9)]) [0, 1, 2] rfl (Nat.le_of_ble_eq_true rfl) ?_
  intro htr p e s m args below meth c A C hr hx hT
  have C : GC p s m args meth c cL_dampnessOf 4 RL wsL_dampnessOf D (tyS c1 c2 c3) A := C
  refine j_aload_n (pc := 0) C dL_dampnessOf_0 2 rfl ?_
  refine j_iconst (pc := 1) C dL_dampnessOf_1 ?_
  refine j_aload_n (pc := 2) C dL_dampnessOf_2 0 rfl ?_
  refine j_iload_n (pc := 3) C dL_dampnessOf_3 1 rfl ?_
  refine j_callXI_catch (pc := 4) C htr hx (As := [.int (zI a)]) (rest := [.int (zI 0), .ref o9]) rfl (xX0_dampnessOf_x1 l D h c1 c2 c3 K Dm L lo hi su db S dy li so sp tu ah M a hL0 hL ha hn) (cwV 1 C.2.2.2.2.1 gL_dampnessOf_X0_dampnessOf rfl rfl rfl (by decide +kernel) ⟨Nat.le_of_ble_eq_true rfl, Nat.le_of_ble_eq_true rfl⟩) 0 (ci := 0) rfl rfl rfl dL_dampnessOf_4 rfl rfl (Nat.le_of_ble_eq_true rfl) (by decide) [] ⟨0, 9, 12, 34⟩ [] hT (fun z hz => absurd hz List.not_mem_nil) (by decide) (by decide) (C.w 1 rfl) (List.mem_of_getElem? (i := 2) rfl) (fun q9 => ?_)
  refine j_astore_n (pc := 12) C (lv' := [(0, .ref (h 0)), (1, .int (zI a)), (2, .ref o9), (3, .ref q9)]) dL_dampnessOf_12 (by decide) [1, 2, 3, 0] rfl ?_
  refine j_iconst (pc := 13) C dL_dampnessOf_13 ?_
  exact j_iret (pc := 14) C hr dL_dampnessOf_14 (by rfl) (by rfl) (by decide) (by decide)
set_option maxHeartbeats 4000000 in
set_option maxRecDepth 100000 in
theorem kL_layersAheadOf (l : Launch) (D : va_G) (h : Nat → Nat) (c1 c2 c3 : ClassId) (K Dm : Int → Int) (L : Int) (lo hi su db : Int → Int) (S dy li so sp : Int) (tu ah : Int → Int) (M : Int → Int → Int) (o9 : Nat) (f9 : Nat → Int64) (a : Int) (h0 : 0 ≤ a) (h1 : a ≤ 4) (hL0 : 0 ≤ L) (hL : L ≤ 12) (hk : ∀ j, 0 ≤ j → j < L → 0 ≤ K j ∧ K j ≤ 4) : cIX l yL_layersAheadOf wsL_layersAheadOf ({ frames := 2, cells := 1, slots := 6, locals := 42 }) D (tyS c1 c2 c3) [.ref (h 0), .int (zI a), .ref o9] (wG h c1 c2 K Dm L lo hi su db S dy li so sp tu ah M ++ [(o9, .inl (c3, 1, .inr (.inl f9)))]) (wG h c1 c2 K Dm L lo hi su db S dy li so sp tu ah M ++ [(o9, .inl (c3, 1, .inr (.inl (vp_updL f9 0 ((zI (fidx (fun j => decide (K j = a)) L)).toInt64)))))]) (zI 0) 1 6 := by
  refine cIX.of (cc := cL_layersAheadOf) (maxL := 4) (ret := .int) (by decide) rfl (lv := [(0, .ref (h 0)), (1, .int (zI a)), (2, .ref o9)]) [0, 1, 2] rfl (Nat.le_of_ble_eq_true rfl) ?_
  intro htr p e s m args below meth c A C hr hx hT
  have C : GC p s m args meth c cL_layersAheadOf 4 RL wsL_layersAheadOf D (tyS c1 c2 c3) A := C
  refine j_aload_n (pc := 0) C dL_layersAheadOf_0 2 rfl ?_
  refine j_iconst (pc := 1) C dL_layersAheadOf_1 ?_
  refine j_aload_n (pc := 2) C dL_layersAheadOf_2 0 rfl ?_
  refine j_iload_n (pc := 3) C dL_layersAheadOf_3 1 rfl ?_
  refine j_callFI (pc := 4) C (As := [.int (zI a)]) (rest := [.int (zI 0), .ref o9]) (wr := [(o9, .inl (c3, 1, .inr (.inl f9)))]) (kX0_layersAheadOf l D h c1 c2 c3 K Dm L lo hi su db S dy li so sp tu ah M a h0 h1 hL0 hL hk) [0, 1, 2] rfl (cwV 1 C.2.2.2.2.1 gL_layersAheadOf_X0_layersAheadOf rfl rfl rfl (by decide +kernel) ⟨Nat.le_of_ble_eq_true rfl, Nat.le_of_ble_eq_true rfl⟩) 0 (ci := 0) rfl rfl rfl dL_layersAheadOf_4 rfl rfl (Nat.le_of_ble_eq_true rfl) (by decide) ?_
  refine j_i2l (pc := 7) C dL_layersAheadOf_7 ?_
  refine j_last (pc := 8) C 23 2 rfl rfl (by decide) (by decide) (ws' := wG h c1 c2 K Dm L lo hi su db S dy li so sp tu ah M ++ [(o9, .inl (c3, 1, .inr (.inl (vp_updL f9 0 ((zI (fidx (fun j => decide (K j = a)) L)).toInt64)))))]) rfl dL_layersAheadOf_8 ?_
  refine j_goto (pc := 9) C 15 dL_layersAheadOf_9 (by decide) ?_
  refine j_iconst (pc := 15) C dL_layersAheadOf_15 ?_
  exact j_iret (pc := 16) C hr dL_layersAheadOf_16 (by rfl) (by rfl) (by decide) (by decide)
set_option maxHeartbeats 4000000 in
set_option maxRecDepth 100000 in
theorem kL_layersAheadOf_x1 (l : Launch) (D : va_G) (h : Nat → Nat) (c1 c2 c3 : ClassId) (K Dm : Int → Int) (L : Int) (lo hi su db : Int → Int) (S dy li so sp : Int) (tu ah : Int → Int) (M : Int → Int → Int) (o9 : Nat) (f9 : Nat → Int64) (a : Int) (ha : zR a) (hn : ¬ (0 ≤ a ∧ a ≤ 4)) : cIX l yL_layersAheadOf wsL_layersAheadOf ({ frames := 7, cells := 1, slots := 6, locals := 112 }) D (tyS c1 c2 c3) [.ref (h 0), .int (zI a), .ref o9] (wG h c1 c2 K Dm L lo hi su db S dy li so sp tu ah M ++ [(o9, .inl (c3, 1, .inr (.inl f9)))]) (wG h c1 c2 K Dm L lo hi su db S dy li so sp tu ah M ++ [(o9, .inl (c3, 1, .inr (.inl f9)))]) (zI 1) 1 6 := by
  refine cIX.of (cc := cL_layersAheadOf) (maxL := 4) (ret := .int) (by decide) rfl (lv := [(0, .ref (h 0)), (1, .int (zI a)), (2, .ref o9)]) [0, 1, 2] rfl (Nat.le_of_ble_eq_true rfl) ?_
  intro htr p e s m args below meth c A C hr hx hT
  have C : GC p s m args meth c cL_layersAheadOf 4 RL wsL_layersAheadOf D (tyS c1 c2 c3) A := C
  refine j_aload_n (pc := 0) C dL_layersAheadOf_0 2 rfl ?_
  refine j_iconst (pc := 1) C dL_layersAheadOf_1 ?_
  refine j_aload_n (pc := 2) C dL_layersAheadOf_2 0 rfl ?_
  refine j_iload_n (pc := 3) C dL_layersAheadOf_3 1 rfl ?_
  refine j_callXI_catch (pc := 4) C htr hx (As := [.int (zI a)]) (rest := [.int (zI 0), .ref o9]) rfl (xX0_layersAheadOf_x1 l D h c1 c2 c3 K Dm L lo hi su db S dy li so sp tu ah M a ha hn) (cwV 1 C.2.2.2.2.1 gL_layersAheadOf_X0_layersAheadOf rfl rfl rfl (by decide +kernel) ⟨Nat.le_of_ble_eq_true rfl, Nat.le_of_ble_eq_true rfl⟩) 0 (ci := 0) rfl rfl rfl dL_layersAheadOf_4 rfl rfl (Nat.le_of_ble_eq_true rfl) (by decide) [] ⟨0, 9, 12, 34⟩ [] hT (fun z hz => absurd hz List.not_mem_nil) (by decide) (by decide) (C.w 1 rfl) (List.mem_of_getElem? (i := 2) rfl) (fun q9 => ?_)
  refine j_astore_n (pc := 12) C (lv' := [(0, .ref (h 0)), (1, .int (zI a)), (2, .ref o9), (3, .ref q9)]) dL_layersAheadOf_12 (by decide) [1, 2, 3, 0] rfl ?_
  refine j_iconst (pc := 13) C dL_layersAheadOf_13 ?_
  exact j_iret (pc := 14) C hr dL_layersAheadOf_14 (by rfl) (by rfl) (by decide) (by decide)
set_option maxHeartbeats 4000000 in
set_option maxRecDepth 100000 in
theorem kL_leastOf (l : Launch) (D : va_G) (h : Nat → Nat) (c1 c2 c3 : ClassId) (K Dm : Int → Int) (L : Int) (lo hi su db : Int → Int) (S dy li so sp : Int) (tu ah : Int → Int) (M : Int → Int → Int) (o9 : Nat) (f9 : Nat → Int64) (a : Int) (hok : okS Dm L lo hi su db S) (h0 : 0 ≤ a) (h1 : a < L) : cIX l yL_leastOf wsL_leastOf ({ frames := 4, cells := 1, slots := 6, locals := 90 }) D (tyS c1 c2 c3) [.ref (h 0), .int (zI a), .ref o9] (wG h c1 c2 K Dm L lo hi su db S dy li so sp tu ah M ++ [(o9, .inl (c3, 1, .inr (.inl f9)))]) (wG h c1 c2 K Dm L lo hi su db S dy li so sp tu ah (wg L lo hi su db M S) ++ [(o9, .inl (c3, 1, .inr (.inl (vp_updL f9 0 ((zI (-((wg L lo hi su db M S) (a + 1) a))).toInt64)))))]) (zI 0) 1 6 := by
  refine cIX.of (cc := cL_leastOf) (maxL := 4) (ret := .int) (by decide) rfl (lv := [(0, .ref (h 0)), (1, .int (zI a)), (2, .ref o9)]) [0, 1, 2] rfl (Nat.le_of_ble_eq_true rfl) ?_
  intro htr p e s m args below meth c A C hr hx hT
  have C : GC p s m args meth c cL_leastOf 4 RL wsL_leastOf D (tyS c1 c2 c3) A := C
  refine j_aload_n (pc := 0) C dL_leastOf_0 2 rfl ?_
  refine j_iconst (pc := 1) C dL_leastOf_1 ?_
  refine j_aload_n (pc := 2) C dL_leastOf_2 0 rfl ?_
  refine j_iload_n (pc := 3) C dL_leastOf_3 1 rfl ?_
  refine j_callFI (pc := 4) C (As := [.int (zI a)]) (rest := [.int (zI 0), .ref o9]) (wr := [(o9, .inl (c3, 1, .inr (.inl f9)))]) (kX0_leastOf l D h c1 c2 c3 K Dm L lo hi su db S dy li so sp tu ah M a hok h0 h1) [0, 1, 2] rfl (cwV 1 C.2.2.2.2.1 gL_leastOf_X0_leastOf rfl rfl rfl (by decide +kernel) ⟨Nat.le_of_ble_eq_true rfl, Nat.le_of_ble_eq_true rfl⟩) 0 (ci := 0) rfl rfl rfl dL_leastOf_4 rfl rfl (Nat.le_of_ble_eq_true rfl) (by decide) ?_
  refine j_i2l (pc := 7) C dL_leastOf_7 ?_
  refine j_last (pc := 8) C 23 2 rfl rfl (by decide) (by decide) (ws' := wG h c1 c2 K Dm L lo hi su db S dy li so sp tu ah (wg L lo hi su db M S) ++ [(o9, .inl (c3, 1, .inr (.inl (vp_updL f9 0 ((zI (-((wg L lo hi su db M S) (a + 1) a))).toInt64)))))]) rfl dL_leastOf_8 ?_
  refine j_goto (pc := 9) C 15 dL_leastOf_9 (by decide) ?_
  refine j_iconst (pc := 15) C dL_leastOf_15 ?_
  exact j_iret (pc := 16) C hr dL_leastOf_16 (by rfl) (by rfl) (by decide) (by decide)
set_option maxHeartbeats 4000000 in
set_option maxRecDepth 100000 in
theorem kL_leastOf_x1 (l : Launch) (D : va_G) (h : Nat → Nat) (c1 c2 c3 : ClassId) (K Dm : Int → Int) (L : Int) (lo hi su db : Int → Int) (S dy li so sp : Int) (tu ah : Int → Int) (M : Int → Int → Int) (o9 : Nat) (f9 : Nat → Int64) (a : Int) (hL0 : 0 ≤ L) (hL : L ≤ 12) (ha : zR a) (hn : ¬ (0 ≤ a ∧ a < L)) : cIX l yL_leastOf wsL_leastOf ({ frames := 8, cells := 1, slots := 6, locals := 132 }) D (tyS c1 c2 c3) [.ref (h 0), .int (zI a), .ref o9] (wG h c1 c2 K Dm L lo hi su db S dy li so sp tu ah M ++ [(o9, .inl (c3, 1, .inr (.inl f9)))]) (wG h c1 c2 K Dm L lo hi su db S dy li so sp tu ah M ++ [(o9, .inl (c3, 1, .inr (.inl f9)))]) (zI 1) 1 6 := by
  refine cIX.of (cc := cL_leastOf) (maxL := 4) (ret := .int) (by decide) rfl (lv := [(0, .ref (h 0)), (1, .int (zI a)), (2, .ref o9)]) [0, 1, 2] rfl (Nat.le_of_ble_eq_true rfl) ?_
  intro htr p e s m args below meth c A C hr hx hT
  have C : GC p s m args meth c cL_leastOf 4 RL wsL_leastOf D (tyS c1 c2 c3) A := C
  refine j_aload_n (pc := 0) C dL_leastOf_0 2 rfl ?_
  refine j_iconst (pc := 1) C dL_leastOf_1 ?_
  refine j_aload_n (pc := 2) C dL_leastOf_2 0 rfl ?_
  refine j_iload_n (pc := 3) C dL_leastOf_3 1 rfl ?_
  refine j_callXI_catch (pc := 4) C htr hx (As := [.int (zI a)]) (rest := [.int (zI 0), .ref o9]) rfl (xX0_leastOf_x1 l D h c1 c2 c3 K Dm L lo hi su db S dy li so sp tu ah M a hL0 hL ha hn) (cwV 1 C.2.2.2.2.1 gL_leastOf_X0_leastOf rfl rfl rfl (by decide +kernel) ⟨Nat.le_of_ble_eq_true rfl, Nat.le_of_ble_eq_true rfl⟩) 0 (ci := 0) rfl rfl rfl dL_leastOf_4 rfl rfl (Nat.le_of_ble_eq_true rfl) (by decide) [] ⟨0, 9, 12, 34⟩ [] hT (fun z hz => absurd hz List.not_mem_nil) (by decide) (by decide) (C.w 1 rfl) (List.mem_of_getElem? (i := 2) rfl) (fun q9 => ?_)
  refine j_astore_n (pc := 12) C (lv' := [(0, .ref (h 0)), (1, .int (zI a)), (2, .ref o9), (3, .ref q9)]) dL_leastOf_12 (by decide) [1, 2, 3, 0] rfl ?_
  refine j_iconst (pc := 13) C dL_leastOf_13 ?_
  exact j_iret (pc := 14) C hr dL_leastOf_14 (by rfl) (by rfl) (by decide) (by decide)
set_option maxHeartbeats 4000000 in
set_option maxRecDepth 100000 in
theorem kL_greatestOf (l : Launch) (D : va_G) (h : Nat → Nat) (c1 c2 c3 : ClassId) (K Dm : Int → Int) (L : Int) (lo hi su db : Int → Int) (S dy li so sp : Int) (tu ah : Int → Int) (M : Int → Int → Int) (o9 : Nat) (f9 : Nat → Int64) (a : Int) (hok : okS Dm L lo hi su db S) (h0 : 0 ≤ a) (h1 : a < L) : cIX l yL_greatestOf wsL_greatestOf ({ frames := 4, cells := 1, slots := 6, locals := 90 }) D (tyS c1 c2 c3) [.ref (h 0), .int (zI a), .ref o9] (wG h c1 c2 K Dm L lo hi su db S dy li so sp tu ah M ++ [(o9, .inl (c3, 1, .inr (.inl f9)))]) (wG h c1 c2 K Dm L lo hi su db S dy li so sp tu ah (wg L lo hi su db M S) ++ [(o9, .inl (c3, 1, .inr (.inl (vp_updL f9 0 ((zI ((wg L lo hi su db M S) a (a + 1))).toInt64)))))]) (zI 0) 1 6 := by
  refine cIX.of (cc := cL_greatestOf) (maxL := 4) (ret := .int) (by decide) rfl (lv := [(0, .ref (h 0)), (1, .int (zI a)), (2, .ref o9)]) [0, 1, 2] rfl (Nat.le_of_ble_eq_true rfl) ?_
  intro htr p e s m args below meth c A C hr hx hT
  have C : GC p s m args meth c cL_greatestOf 4 RL wsL_greatestOf D (tyS c1 c2 c3) A := C
  refine j_aload_n (pc := 0) C dL_greatestOf_0 2 rfl ?_
  refine j_iconst (pc := 1) C dL_greatestOf_1 ?_
  refine j_aload_n (pc := 2) C dL_greatestOf_2 0 rfl ?_
  refine j_iload_n (pc := 3) C dL_greatestOf_3 1 rfl ?_
  refine j_callFI (pc := 4) C (As := [.int (zI a)]) (rest := [.int (zI 0), .ref o9]) (wr := [(o9, .inl (c3, 1, .inr (.inl f9)))]) (kX0_greatestOf l D h c1 c2 c3 K Dm L lo hi su db S dy li so sp tu ah M a hok h0 h1) [0, 1, 2] rfl (cwV 1 C.2.2.2.2.1 gL_greatestOf_X0_greatestOf rfl rfl rfl (by decide +kernel) ⟨Nat.le_of_ble_eq_true rfl, Nat.le_of_ble_eq_true rfl⟩) 0 (ci := 0) rfl rfl rfl dL_greatestOf_4 rfl rfl (Nat.le_of_ble_eq_true rfl) (by decide) ?_
  refine j_i2l (pc := 7) C dL_greatestOf_7 ?_
  refine j_last (pc := 8) C 23 2 rfl rfl (by decide) (by decide) (ws' := wG h c1 c2 K Dm L lo hi su db S dy li so sp tu ah (wg L lo hi su db M S) ++ [(o9, .inl (c3, 1, .inr (.inl (vp_updL f9 0 ((zI ((wg L lo hi su db M S) a (a + 1))).toInt64)))))]) rfl dL_greatestOf_8 ?_
  refine j_goto (pc := 9) C 15 dL_greatestOf_9 (by decide) ?_
  refine j_iconst (pc := 15) C dL_greatestOf_15 ?_
  exact j_iret (pc := 16) C hr dL_greatestOf_16 (by rfl) (by rfl) (by decide) (by decide)
set_option maxHeartbeats 4000000 in
set_option maxRecDepth 100000 in
theorem kL_greatestOf_x1 (l : Launch) (D : va_G) (h : Nat → Nat) (c1 c2 c3 : ClassId) (K Dm : Int → Int) (L : Int) (lo hi su db : Int → Int) (S dy li so sp : Int) (tu ah : Int → Int) (M : Int → Int → Int) (o9 : Nat) (f9 : Nat → Int64) (a : Int) (hL0 : 0 ≤ L) (hL : L ≤ 12) (ha : zR a) (hn : ¬ (0 ≤ a ∧ a < L)) : cIX l yL_greatestOf wsL_greatestOf ({ frames := 8, cells := 1, slots := 6, locals := 132 }) D (tyS c1 c2 c3) [.ref (h 0), .int (zI a), .ref o9] (wG h c1 c2 K Dm L lo hi su db S dy li so sp tu ah M ++ [(o9, .inl (c3, 1, .inr (.inl f9)))]) (wG h c1 c2 K Dm L lo hi su db S dy li so sp tu ah M ++ [(o9, .inl (c3, 1, .inr (.inl f9)))]) (zI 1) 1 6 := by
  refine cIX.of (cc := cL_greatestOf) (maxL := 4) (ret := .int) (by decide) rfl (lv := [(0, .ref (h 0)), (1, .int (zI a)), (2, .ref o9)]) [0, 1, 2] rfl (Nat.le_of_ble_eq_true rfl) ?_
  intro htr p e s m args below meth c A C hr hx hT
  have C : GC p s m args meth c cL_greatestOf 4 RL wsL_greatestOf D (tyS c1 c2 c3) A := C
  refine j_aload_n (pc := 0) C dL_greatestOf_0 2 rfl ?_
  refine j_iconst (pc := 1) C dL_greatestOf_1 ?_
  refine j_aload_n (pc := 2) C dL_greatestOf_2 0 rfl ?_
  refine j_iload_n (pc := 3) C dL_greatestOf_3 1 rfl ?_
  refine j_callXI_catch (pc := 4) C htr hx (As := [.int (zI a)]) (rest := [.int (zI 0), .ref o9]) rfl (xX0_greatestOf_x1 l D h c1 c2 c3 K Dm L lo hi su db S dy li so sp tu ah M a hL0 hL ha hn) (cwV 1 C.2.2.2.2.1 gL_greatestOf_X0_greatestOf rfl rfl rfl (by decide +kernel) ⟨Nat.le_of_ble_eq_true rfl, Nat.le_of_ble_eq_true rfl⟩) 0 (ci := 0) rfl rfl rfl dL_greatestOf_4 rfl rfl (Nat.le_of_ble_eq_true rfl) (by decide) [] ⟨0, 9, 12, 34⟩ [] hT (fun z hz => absurd hz List.not_mem_nil) (by decide) (by decide) (C.w 1 rfl) (List.mem_of_getElem? (i := 2) rfl) (fun q9 => ?_)
  refine j_astore_n (pc := 12) C (lv' := [(0, .ref (h 0)), (1, .int (zI a)), (2, .ref o9), (3, .ref q9)]) dL_greatestOf_12 (by decide) [1, 2, 3, 0] rfl ?_
  refine j_iconst (pc := 13) C dL_greatestOf_13 ?_
  exact j_iret (pc := 14) C hr dL_greatestOf_14 (by rfl) (by rfl) (by decide) (by decide)
set_option maxHeartbeats 4000000 in
set_option maxRecDepth 100000 in
theorem kL_worstLayer (l : Launch) (D : va_G) (h : Nat → Nat) (c1 c2 c3 : ClassId) (K Dm : Int → Int) (L : Int) (lo hi su db : Int → Int) (S dy li so sp : Int) (tu ah : Int → Int) (M : Int → Int → Int) (o9 : Nat) (f9 : Nat → Int64) (hok : okS Dm L lo hi su db S) (h0 : 0 < L) : cIX l yL_worstLayer wsL_worstLayer ({ frames := 4, cells := 1, slots := 6, locals := 91 }) D (tyS c1 c2 c3) [.ref (h 0), .ref o9] (wG h c1 c2 K Dm L lo hi su db S dy li so sp tu ah M ++ [(o9, .inl (c3, 1, .inr (.inl f9)))]) (wG h c1 c2 K Dm L lo hi su db S dy li so sp tu ah (wg L lo hi su db M S) ++ [(o9, .inl (c3, 1, .inr (.inl (vp_updL f9 0 ((zI (ag (fun x y => decide ((wg L lo hi su db M S) y (y + 1) < (wg L lo hi su db M S) x (x + 1))) L)).toInt64)))))]) (zI 0) 1 6 := by
  refine cIX.of (cc := cL_worstLayer) (maxL := 3) (ret := .int) (by decide) rfl (lv := [(0, .ref (h 0)), (1, .ref o9)]) [0, 1] rfl (Nat.le_of_ble_eq_true rfl) ?_
  intro htr p e s m args below meth c A C hr hx hT
  have C : GC p s m args meth c cL_worstLayer 3 RL wsL_worstLayer D (tyS c1 c2 c3) A := C
  refine j_aload_n (pc := 0) C dL_worstLayer_0 1 rfl ?_
  refine j_iconst (pc := 1) C dL_worstLayer_1 ?_
  refine j_aload_n (pc := 2) C dL_worstLayer_2 0 rfl ?_
  refine j_callFI (pc := 3) C (As := []) (rest := [.int (zI 0), .ref o9]) (wr := [(o9, .inl (c3, 1, .inr (.inl f9)))]) (kX0_worstLayer l D h c1 c2 c3 K Dm L lo hi su db S dy li so sp tu ah M  hok h0) [0, 1, 2] rfl (cwV 0 C.2.2.2.2.1 gL_worstLayer_X0_worstLayer rfl rfl rfl (by decide +kernel) ⟨Nat.le_of_ble_eq_true rfl, Nat.le_of_ble_eq_true rfl⟩) 0 (ci := 0) rfl rfl rfl dL_worstLayer_3 rfl rfl (Nat.le_of_ble_eq_true rfl) (by decide) ?_
  refine j_i2l (pc := 6) C dL_worstLayer_6 ?_
  refine j_last (pc := 7) C 23 2 rfl rfl (by decide) (by decide) (ws' := wG h c1 c2 K Dm L lo hi su db S dy li so sp tu ah (wg L lo hi su db M S) ++ [(o9, .inl (c3, 1, .inr (.inl (vp_updL f9 0 ((zI (ag (fun x y => decide ((wg L lo hi su db M S) y (y + 1) < (wg L lo hi su db M S) x (x + 1))) L)).toInt64)))))]) rfl dL_worstLayer_7 ?_
  refine j_goto (pc := 8) C 14 dL_worstLayer_8 (by decide) ?_
  refine j_iconst (pc := 14) C dL_worstLayer_14 ?_
  exact j_iret (pc := 15) C hr dL_worstLayer_15 (by rfl) (by rfl) (by decide) (by decide)
set_option maxHeartbeats 4000000 in
set_option maxRecDepth 100000 in
theorem kL_worstLayer_x1 (l : Launch) (D : va_G) (h : Nat → Nat) (c1 c2 c3 : ClassId) (K Dm : Int → Int) (L : Int) (lo hi su db : Int → Int) (S dy li so sp : Int) (tu ah : Int → Int) (M : Int → Int → Int) (o9 : Nat) (f9 : Nat → Int64) (hL : L = 0) : cIX l yL_worstLayer wsL_worstLayer ({ frames := 8, cells := 1, slots := 6, locals := 132 }) D (tyS c1 c2 c3) [.ref (h 0), .ref o9] (wG h c1 c2 K Dm L lo hi su db S dy li so sp tu ah M ++ [(o9, .inl (c3, 1, .inr (.inl f9)))]) (wG h c1 c2 K Dm L lo hi su db S dy li so sp tu ah M ++ [(o9, .inl (c3, 1, .inr (.inl f9)))]) (zI 1) 1 6 := by
  refine cIX.of (cc := cL_worstLayer) (maxL := 3) (ret := .int) (by decide) rfl (lv := [(0, .ref (h 0)), (1, .ref o9)]) [0, 1] rfl (Nat.le_of_ble_eq_true rfl) ?_
  intro htr p e s m args below meth c A C hr hx hT
  have C : GC p s m args meth c cL_worstLayer 3 RL wsL_worstLayer D (tyS c1 c2 c3) A := C
  refine j_aload_n (pc := 0) C dL_worstLayer_0 1 rfl ?_
  refine j_iconst (pc := 1) C dL_worstLayer_1 ?_
  refine j_aload_n (pc := 2) C dL_worstLayer_2 0 rfl ?_
  refine j_callXI_catch (pc := 3) C htr hx (As := []) (rest := [.int (zI 0), .ref o9]) rfl (xX0_worstLayer_x1 l D h c1 c2 c3 K Dm L lo hi su db S dy li so sp tu ah M  hL) (cwV 0 C.2.2.2.2.1 gL_worstLayer_X0_worstLayer rfl rfl rfl (by decide +kernel) ⟨Nat.le_of_ble_eq_true rfl, Nat.le_of_ble_eq_true rfl⟩) 0 (ci := 0) rfl rfl rfl dL_worstLayer_3 rfl rfl (Nat.le_of_ble_eq_true rfl) (by decide) [] ⟨0, 8, 11, 15⟩ [] hT (fun z hz => absurd hz List.not_mem_nil) (by decide) (by decide) (C.w 1 rfl) (List.mem_of_getElem? (i := 1) rfl) (fun q9 => ?_)
  refine j_astore_n (pc := 11) C (lv' := [(0, .ref (h 0)), (1, .ref o9), (2, .ref q9)]) dL_worstLayer_11 (by decide) [1, 2, 0] rfl ?_
  refine j_iconst (pc := 12) C dL_worstLayer_12 ?_
  exact j_iret (pc := 13) C hr dL_worstLayer_13 (by rfl) (by rfl) (by decide) (by decide)
set_option maxHeartbeats 4000000 in
set_option maxRecDepth 100000 in
theorem kL_bestToLookAt (l : Launch) (D : va_G) (h : Nat → Nat) (c1 c2 c3 : ClassId) (K Dm : Int → Int) (L : Int) (lo hi su db : Int → Int) (S dy li so sp : Int) (tu ah : Int → Int) (M : Int → Int → Int) (o9 : Nat) (f9 : Nat → Int64) (hok : okS Dm L lo hi su db S) (h0 : 0 < L) : cIX l yL_bestToLookAt wsL_bestToLookAt ({ frames := 4, cells := 1, slots := 6, locals := 97 }) D (tyS c1 c2 c3) [.ref (h 0), .ref o9] (wG h c1 c2 K Dm L lo hi su db S dy li so sp tu ah M ++ [(o9, .inl (c3, 1, .inr (.inl f9)))]) (wG h c1 c2 K Dm L lo hi su db S dy li so sp tu ah (wg L lo hi su db M S) ++ [(o9, .inl (c3, 1, .inr (.inl (vp_updL f9 0 ((zI (ag (fun x y => decide (dIf (wg L lo hi su db M S) Dm L x x < dIf (wg L lo hi su db M S) Dm L y y)) L)).toInt64)))))]) (zI 0) 1 6 := by
  refine cIX.of (cc := cL_bestToLookAt) (maxL := 3) (ret := .int) (by decide) rfl (lv := [(0, .ref (h 0)), (1, .ref o9)]) [0, 1] rfl (Nat.le_of_ble_eq_true rfl) ?_
  intro htr p e s m args below meth c A C hr hx hT
  have C : GC p s m args meth c cL_bestToLookAt 3 RL wsL_bestToLookAt D (tyS c1 c2 c3) A := C
  refine j_aload_n (pc := 0) C dL_bestToLookAt_0 1 rfl ?_
  refine j_iconst (pc := 1) C dL_bestToLookAt_1 ?_
  refine j_aload_n (pc := 2) C dL_bestToLookAt_2 0 rfl ?_
  refine j_callFI (pc := 3) C (As := []) (rest := [.int (zI 0), .ref o9]) (wr := [(o9, .inl (c3, 1, .inr (.inl f9)))]) (kX0_bestToLookAt l D h c1 c2 c3 K Dm L lo hi su db S dy li so sp tu ah M  hok h0) [0, 1, 2] rfl (cwV 0 C.2.2.2.2.1 gL_bestToLookAt_X0_bestToLookAt rfl rfl rfl (by decide +kernel) ⟨Nat.le_of_ble_eq_true rfl, Nat.le_of_ble_eq_true rfl⟩) 0 (ci := 0) rfl rfl rfl dL_bestToLookAt_3 rfl rfl (Nat.le_of_ble_eq_true rfl) (by decide) ?_
  refine j_i2l (pc := 6) C dL_bestToLookAt_6 ?_
  refine j_last (pc := 7) C 23 2 rfl rfl (by decide) (by decide) (ws' := wG h c1 c2 K Dm L lo hi su db S dy li so sp tu ah (wg L lo hi su db M S) ++ [(o9, .inl (c3, 1, .inr (.inl (vp_updL f9 0 ((zI (ag (fun x y => decide (dIf (wg L lo hi su db M S) Dm L x x < dIf (wg L lo hi su db M S) Dm L y y)) L)).toInt64)))))]) rfl dL_bestToLookAt_7 ?_
  refine j_goto (pc := 8) C 14 dL_bestToLookAt_8 (by decide) ?_
  refine j_iconst (pc := 14) C dL_bestToLookAt_14 ?_
  exact j_iret (pc := 15) C hr dL_bestToLookAt_15 (by rfl) (by rfl) (by decide) (by decide)
set_option maxHeartbeats 4000000 in
set_option maxRecDepth 100000 in
theorem kL_bestToLookAt_x1 (l : Launch) (D : va_G) (h : Nat → Nat) (c1 c2 c3 : ClassId) (K Dm : Int → Int) (L : Int) (lo hi su db : Int → Int) (S dy li so sp : Int) (tu ah : Int → Int) (M : Int → Int → Int) (o9 : Nat) (f9 : Nat → Int64) (hL : L = 0) : cIX l yL_bestToLookAt wsL_bestToLookAt ({ frames := 8, cells := 1, slots := 6, locals := 134 }) D (tyS c1 c2 c3) [.ref (h 0), .ref o9] (wG h c1 c2 K Dm L lo hi su db S dy li so sp tu ah M ++ [(o9, .inl (c3, 1, .inr (.inl f9)))]) (wG h c1 c2 K Dm L lo hi su db S dy li so sp tu ah M ++ [(o9, .inl (c3, 1, .inr (.inl f9)))]) (zI 1) 1 6 := by
  refine cIX.of (cc := cL_bestToLookAt) (maxL := 3) (ret := .int) (by decide) rfl (lv := [(0, .ref (h 0)), (1, .ref o9)]) [0, 1] rfl (Nat.le_of_ble_eq_true rfl) ?_
  intro htr p e s m args below meth c A C hr hx hT
  have C : GC p s m args meth c cL_bestToLookAt 3 RL wsL_bestToLookAt D (tyS c1 c2 c3) A := C
  refine j_aload_n (pc := 0) C dL_bestToLookAt_0 1 rfl ?_
  refine j_iconst (pc := 1) C dL_bestToLookAt_1 ?_
  refine j_aload_n (pc := 2) C dL_bestToLookAt_2 0 rfl ?_
  refine j_callXI_catch (pc := 3) C htr hx (As := []) (rest := [.int (zI 0), .ref o9]) rfl (xX0_bestToLookAt_x1 l D h c1 c2 c3 K Dm L lo hi su db S dy li so sp tu ah M  hL) (cwV 0 C.2.2.2.2.1 gL_bestToLookAt_X0_bestToLookAt rfl rfl rfl (by decide +kernel) ⟨Nat.le_of_ble_eq_true rfl, Nat.le_of_ble_eq_true rfl⟩) 0 (ci := 0) rfl rfl rfl dL_bestToLookAt_3 rfl rfl (Nat.le_of_ble_eq_true rfl) (by decide) [] ⟨0, 8, 11, 15⟩ [] hT (fun z hz => absurd hz List.not_mem_nil) (by decide) (by decide) (C.w 1 rfl) (List.mem_of_getElem? (i := 1) rfl) (fun q9 => ?_)
  refine j_astore_n (pc := 11) C (lv' := [(0, .ref (h 0)), (1, .ref o9), (2, .ref q9)]) dL_bestToLookAt_11 (by decide) [1, 2, 0] rfl ?_
  refine j_iconst (pc := 12) C dL_bestToLookAt_12 ?_
  exact j_iret (pc := 13) C hr dL_bestToLookAt_13 (by rfl) (by rfl) (by decide) (by decide)
set_option maxHeartbeats 4000000 in
set_option maxRecDepth 100000 in
theorem kL_leastSum (l : Launch) (D : va_G) (h : Nat → Nat) (c1 c2 c3 : ClassId) (K Dm : Int → Int) (L : Int) (lo hi su db : Int → Int) (S dy li so sp : Int) (tu ah : Int → Int) (M : Int → Int → Int) (o9 : Nat) (f9 : Nat → Int64) (a b : Int) (hok : okS Dm L lo hi su db S) (h0 : 0 ≤ a) (h1 : a ≤ b) (h2 : b < L) : cIX l yL_leastSum wsL_leastSum ({ frames := 4, cells := 1, slots := 6, locals := 91 }) D (tyS c1 c2 c3) [.ref (h 0), .int (zI a), .int (zI b), .ref o9] (wG h c1 c2 K Dm L lo hi su db S dy li so sp tu ah M ++ [(o9, .inl (c3, 1, .inr (.inl f9)))]) (wG h c1 c2 K Dm L lo hi su db S dy li so sp tu ah (wg L lo hi su db M S) ++ [(o9, .inl (c3, 1, .inr (.inl (vp_updL f9 0 ((zI (-((wg L lo hi su db M S) (b + 1) a))).toInt64)))))]) (zI 0) 1 6 := by
  refine cIX.of (cc := cL_leastSum) (maxL := 5) (ret := .int) (by decide) rfl (lv := [(0, .ref (h 0)), (1, .int (zI a)), (2, .int (zI b)), (3, .ref o9)]) [0, 1, 2, 3] rfl (Nat.le_of_ble_eq_true rfl) ?_
  intro htr p e s m args below meth c A C hr hx hT
  have C : GC p s m args meth c cL_leastSum 5 RL wsL_leastSum D (tyS c1 c2 c3) A := C
  refine j_aload_n (pc := 0) C dL_leastSum_0 3 rfl ?_
  refine j_iconst (pc := 1) C dL_leastSum_1 ?_
  refine j_aload_n (pc := 2) C dL_leastSum_2 0 rfl ?_
  refine j_iload_n (pc := 3) C dL_leastSum_3 1 rfl ?_
  refine j_iload_n (pc := 4) C dL_leastSum_4 2 rfl ?_
  refine j_callFI (pc := 5) C (As := [.int (zI a), .int (zI b)]) (rest := [.int (zI 0), .ref o9]) (wr := [(o9, .inl (c3, 1, .inr (.inl f9)))]) (kX0_leastSum l D h c1 c2 c3 K Dm L lo hi su db S dy li so sp tu ah M a b hok h0 h1 h2) [0, 1, 2] rfl (cwV 2 C.2.2.2.2.1 gL_leastSum_X0_leastSum rfl rfl rfl (by decide +kernel) ⟨Nat.le_of_ble_eq_true rfl, Nat.le_of_ble_eq_true rfl⟩) 0 (ci := 0) rfl rfl rfl dL_leastSum_5 rfl rfl (Nat.le_of_ble_eq_true rfl) (by decide) ?_
  refine j_i2l (pc := 8) C dL_leastSum_8 ?_
  refine j_last (pc := 9) C 23 2 rfl rfl (by decide) (by decide) (ws' := wG h c1 c2 K Dm L lo hi su db S dy li so sp tu ah (wg L lo hi su db M S) ++ [(o9, .inl (c3, 1, .inr (.inl (vp_updL f9 0 ((zI (-((wg L lo hi su db M S) (b + 1) a))).toInt64)))))]) rfl dL_leastSum_9 ?_
  refine j_goto (pc := 10) C 17 dL_leastSum_10 (by decide) ?_
  refine j_iconst (pc := 17) C dL_leastSum_17 ?_
  exact j_iret (pc := 18) C hr dL_leastSum_18 (by rfl) (by rfl) (by decide) (by decide)
set_option maxHeartbeats 4000000 in
set_option maxRecDepth 100000 in
theorem kL_leastSum_x1 (l : Launch) (D : va_G) (h : Nat → Nat) (c1 c2 c3 : ClassId) (K Dm : Int → Int) (L : Int) (lo hi su db : Int → Int) (S dy li so sp : Int) (tu ah : Int → Int) (M : Int → Int → Int) (o9 : Nat) (f9 : Nat → Int64) (a b : Int) (hL0 : 0 ≤ L) (hL : L ≤ 12) (ha : zR a) (hb : zR b) (hn : ¬ (0 ≤ a ∧ a ≤ b ∧ b < L)) : cIX l yL_leastSum wsL_leastSum ({ frames := 8, cells := 1, slots := 6, locals := 134 }) D (tyS c1 c2 c3) [.ref (h 0), .int (zI a), .int (zI b), .ref o9] (wG h c1 c2 K Dm L lo hi su db S dy li so sp tu ah M ++ [(o9, .inl (c3, 1, .inr (.inl f9)))]) (wG h c1 c2 K Dm L lo hi su db S dy li so sp tu ah M ++ [(o9, .inl (c3, 1, .inr (.inl f9)))]) (zI 1) 1 6 := by
  refine cIX.of (cc := cL_leastSum) (maxL := 5) (ret := .int) (by decide) rfl (lv := [(0, .ref (h 0)), (1, .int (zI a)), (2, .int (zI b)), (3, .ref o9)]) [0, 1, 2, 3] rfl (Nat.le_of_ble_eq_true rfl) ?_
  intro htr p e s m args below meth c A C hr hx hT
  have C : GC p s m args meth c cL_leastSum 5 RL wsL_leastSum D (tyS c1 c2 c3) A := C
  refine j_aload_n (pc := 0) C dL_leastSum_0 3 rfl ?_
  refine j_iconst (pc := 1) C dL_leastSum_1 ?_
  refine j_aload_n (pc := 2) C dL_leastSum_2 0 rfl ?_
  refine j_iload_n (pc := 3) C dL_leastSum_3 1 rfl ?_
  refine j_iload_n (pc := 4) C dL_leastSum_4 2 rfl ?_
  refine j_callXI_catch (pc := 5) C htr hx (As := [.int (zI a), .int (zI b)]) (rest := [.int (zI 0), .ref o9]) rfl (xX0_leastSum_x1 l D h c1 c2 c3 K Dm L lo hi su db S dy li so sp tu ah M a b hL0 hL ha hb hn) (cwV 2 C.2.2.2.2.1 gL_leastSum_X0_leastSum rfl rfl rfl (by decide +kernel) ⟨Nat.le_of_ble_eq_true rfl, Nat.le_of_ble_eq_true rfl⟩) 0 (ci := 0) rfl rfl rfl dL_leastSum_5 rfl rfl (Nat.le_of_ble_eq_true rfl) (by decide) [] ⟨0, 10, 13, 34⟩ [] hT (fun z hz => absurd hz List.not_mem_nil) (by decide) (by decide) (C.w 1 rfl) (List.mem_of_getElem? (i := 2) rfl) (fun q9 => ?_)
  refine j_astore (pc := 13) C (lv' := [(0, .ref (h 0)), (1, .int (zI a)), (2, .int (zI b)), (3, .ref o9), (4, .ref q9)]) dL_leastSum_13 (by decide) [1, 2, 3, 4, 0] rfl ?_
  refine j_iconst (pc := 15) C dL_leastSum_15 ?_
  exact j_iret (pc := 16) C hr dL_leastSum_16 (by rfl) (by rfl) (by decide) (by decide)
set_option maxHeartbeats 4000000 in
set_option maxRecDepth 100000 in
theorem kL_greatestSum (l : Launch) (D : va_G) (h : Nat → Nat) (c1 c2 c3 : ClassId) (K Dm : Int → Int) (L : Int) (lo hi su db : Int → Int) (S dy li so sp : Int) (tu ah : Int → Int) (M : Int → Int → Int) (o9 : Nat) (f9 : Nat → Int64) (a b : Int) (hok : okS Dm L lo hi su db S) (h0 : 0 ≤ a) (h1 : a ≤ b) (h2 : b < L) : cIX l yL_greatestSum wsL_greatestSum ({ frames := 4, cells := 1, slots := 6, locals := 91 }) D (tyS c1 c2 c3) [.ref (h 0), .int (zI a), .int (zI b), .ref o9] (wG h c1 c2 K Dm L lo hi su db S dy li so sp tu ah M ++ [(o9, .inl (c3, 1, .inr (.inl f9)))]) (wG h c1 c2 K Dm L lo hi su db S dy li so sp tu ah (wg L lo hi su db M S) ++ [(o9, .inl (c3, 1, .inr (.inl (vp_updL f9 0 ((zI ((wg L lo hi su db M S) a (b + 1))).toInt64)))))]) (zI 0) 1 6 := by
  refine cIX.of (cc := cL_greatestSum) (maxL := 5) (ret := .int) (by decide) rfl (lv := [(0, .ref (h 0)), (1, .int (zI a)), (2, .int (zI b)), (3, .ref o9)]) [0, 1, 2, 3] rfl (Nat.le_of_ble_eq_true rfl) ?_
  intro htr p e s m args below meth c A C hr hx hT
  have C : GC p s m args meth c cL_greatestSum 5 RL wsL_greatestSum D (tyS c1 c2 c3) A := C
  refine j_aload_n (pc := 0) C dL_greatestSum_0 3 rfl ?_
  refine j_iconst (pc := 1) C dL_greatestSum_1 ?_
  refine j_aload_n (pc := 2) C dL_greatestSum_2 0 rfl ?_
  refine j_iload_n (pc := 3) C dL_greatestSum_3 1 rfl ?_
  refine j_iload_n (pc := 4) C dL_greatestSum_4 2 rfl ?_
  refine j_callFI (pc := 5) C (As := [.int (zI a), .int (zI b)]) (rest := [.int (zI 0), .ref o9]) (wr := [(o9, .inl (c3, 1, .inr (.inl f9)))]) (kX0_greatestSum l D h c1 c2 c3 K Dm L lo hi su db S dy li so sp tu ah M a b hok h0 h1 h2) [0, 1, 2] rfl (cwV 2 C.2.2.2.2.1 gL_greatestSum_X0_greatestSum rfl rfl rfl (by decide +kernel) ⟨Nat.le_of_ble_eq_true rfl, Nat.le_of_ble_eq_true rfl⟩) 0 (ci := 0) rfl rfl rfl dL_greatestSum_5 rfl rfl (Nat.le_of_ble_eq_true rfl) (by decide) ?_
  refine j_i2l (pc := 8) C dL_greatestSum_8 ?_
  refine j_last (pc := 9) C 23 2 rfl rfl (by decide) (by decide) (ws' := wG h c1 c2 K Dm L lo hi su db S dy li so sp tu ah (wg L lo hi su db M S) ++ [(o9, .inl (c3, 1, .inr (.inl (vp_updL f9 0 ((zI ((wg L lo hi su db M S) a (b + 1))).toInt64)))))]) rfl dL_greatestSum_9 ?_
  refine j_goto (pc := 10) C 17 dL_greatestSum_10 (by decide) ?_
  refine j_iconst (pc := 17) C dL_greatestSum_17 ?_
  exact j_iret (pc := 18) C hr dL_greatestSum_18 (by rfl) (by rfl) (by decide) (by decide)
set_option maxHeartbeats 4000000 in
set_option maxRecDepth 100000 in
theorem kL_greatestSum_x1 (l : Launch) (D : va_G) (h : Nat → Nat) (c1 c2 c3 : ClassId) (K Dm : Int → Int) (L : Int) (lo hi su db : Int → Int) (S dy li so sp : Int) (tu ah : Int → Int) (M : Int → Int → Int) (o9 : Nat) (f9 : Nat → Int64) (a b : Int) (hL0 : 0 ≤ L) (hL : L ≤ 12) (ha : zR a) (hb : zR b) (hn : ¬ (0 ≤ a ∧ a ≤ b ∧ b < L)) : cIX l yL_greatestSum wsL_greatestSum ({ frames := 8, cells := 1, slots := 6, locals := 134 }) D (tyS c1 c2 c3) [.ref (h 0), .int (zI a), .int (zI b), .ref o9] (wG h c1 c2 K Dm L lo hi su db S dy li so sp tu ah M ++ [(o9, .inl (c3, 1, .inr (.inl f9)))]) (wG h c1 c2 K Dm L lo hi su db S dy li so sp tu ah M ++ [(o9, .inl (c3, 1, .inr (.inl f9)))]) (zI 1) 1 6 := by
  refine cIX.of (cc := cL_greatestSum) (maxL := 5) (ret := .int) (by decide) rfl (lv := [(0, .ref (h 0)), (1, .int (zI a)), (2, .int (zI b)), (3, .ref o9)]) [0, 1, 2, 3] rfl (Nat.le_of_ble_eq_true rfl) ?_
  intro htr p e s m args below meth c A C hr hx hT
  have C : GC p s m args meth c cL_greatestSum 5 RL wsL_greatestSum D (tyS c1 c2 c3) A := C
  refine j_aload_n (pc := 0) C dL_greatestSum_0 3 rfl ?_
  refine j_iconst (pc := 1) C dL_greatestSum_1 ?_
  refine j_aload_n (pc := 2) C dL_greatestSum_2 0 rfl ?_
  refine j_iload_n (pc := 3) C dL_greatestSum_3 1 rfl ?_
  refine j_iload_n (pc := 4) C dL_greatestSum_4 2 rfl ?_
  refine j_callXI_catch (pc := 5) C htr hx (As := [.int (zI a), .int (zI b)]) (rest := [.int (zI 0), .ref o9]) rfl (xX0_greatestSum_x1 l D h c1 c2 c3 K Dm L lo hi su db S dy li so sp tu ah M a b hL0 hL ha hb hn) (cwV 2 C.2.2.2.2.1 gL_greatestSum_X0_greatestSum rfl rfl rfl (by decide +kernel) ⟨Nat.le_of_ble_eq_true rfl, Nat.le_of_ble_eq_true rfl⟩) 0 (ci := 0) rfl rfl rfl dL_greatestSum_5 rfl rfl (Nat.le_of_ble_eq_true rfl) (by decide) [] ⟨0, 10, 13, 34⟩ [] hT (fun z hz => absurd hz List.not_mem_nil) (by decide) (by decide) (C.w 1 rfl) (List.mem_of_getElem? (i := 2) rfl) (fun q9 => ?_)
  refine j_astore (pc := 13) C (lv' := [(0, .ref (h 0)), (1, .int (zI a)), (2, .int (zI b)), (3, .ref o9), (4, .ref q9)]) dL_greatestSum_13 (by decide) [1, 2, 3, 4, 0] rfl ?_
  refine j_iconst (pc := 15) C dL_greatestSum_15 ?_
  exact j_iret (pc := 16) C hr dL_greatestSum_16 (by rfl) (by rfl) (by decide) (by decide)
set_option maxHeartbeats 4000000 in
set_option maxRecDepth 100000 in
theorem kL_doubtBehind (l : Launch) (D : va_G) (h : Nat → Nat) (c1 c2 c3 : ClassId) (K Dm : Int → Int) (L : Int) (lo hi su db : Int → Int) (S dy li so sp : Int) (tu ah : Int → Int) (M : Int → Int → Int) (o9 : Nat) (f9 : Nat → Int64) (a b : Int) (hok : okS Dm L lo hi su db S) (h0 : 0 ≤ a) (h1 : a ≤ b) (h2 : b < L) : cIX l yL_doubtBehind wsL_doubtBehind ({ frames := 4, cells := 1, slots := 6, locals := 95 }) D (tyS c1 c2 c3) [.ref (h 0), .int (zI a), .int (zI b), .ref o9] (wG h c1 c2 K Dm L lo hi su db S dy li so sp tu ah M ++ [(o9, .inl (c3, 1, .inr (.inl f9)))]) (wG h c1 c2 K Dm L lo hi su db S dy li so sp tu ah (wg L lo hi su db M S) ++ [(o9, .inl (c3, 1, .inr (.inl (vp_updL f9 0 ((zI (dIf (wg L lo hi su db M S) Dm L a b)).toInt64)))))]) (zI 0) 1 6 := by
  refine cIX.of (cc := cL_doubtBehind) (maxL := 5) (ret := .int) (by decide) rfl (lv := [(0, .ref (h 0)), (1, .int (zI a)), (2, .int (zI b)), (3, .ref o9)]) [0, 1, 2, 3] rfl (Nat.le_of_ble_eq_true rfl) ?_
  intro htr p e s m args below meth c A C hr hx hT
  have C : GC p s m args meth c cL_doubtBehind 5 RL wsL_doubtBehind D (tyS c1 c2 c3) A := C
  refine j_aload_n (pc := 0) C dL_doubtBehind_0 3 rfl ?_
  refine j_iconst (pc := 1) C dL_doubtBehind_1 ?_
  refine j_aload_n (pc := 2) C dL_doubtBehind_2 0 rfl ?_
  refine j_iload_n (pc := 3) C dL_doubtBehind_3 1 rfl ?_
  refine j_iload_n (pc := 4) C dL_doubtBehind_4 2 rfl ?_
  refine j_callFI (pc := 5) C (As := [.int (zI a), .int (zI b)]) (rest := [.int (zI 0), .ref o9]) (wr := [(o9, .inl (c3, 1, .inr (.inl f9)))]) (kX0_doubtBehind l D h c1 c2 c3 K Dm L lo hi su db S dy li so sp tu ah M a b hok h0 h1 h2) [0, 1, 2] rfl (cwV 2 C.2.2.2.2.1 gL_doubtBehind_X0_doubtBehind rfl rfl rfl (by decide +kernel) ⟨Nat.le_of_ble_eq_true rfl, Nat.le_of_ble_eq_true rfl⟩) 0 (ci := 0) rfl rfl rfl dL_doubtBehind_5 rfl rfl (Nat.le_of_ble_eq_true rfl) (by decide) ?_
  refine j_i2l (pc := 8) C dL_doubtBehind_8 ?_
  refine j_last (pc := 9) C 23 2 rfl rfl (by decide) (by decide) (ws' := wG h c1 c2 K Dm L lo hi su db S dy li so sp tu ah (wg L lo hi su db M S) ++ [(o9, .inl (c3, 1, .inr (.inl (vp_updL f9 0 ((zI (dIf (wg L lo hi su db M S) Dm L a b)).toInt64)))))]) rfl dL_doubtBehind_9 ?_
  refine j_goto (pc := 10) C 17 dL_doubtBehind_10 (by decide) ?_
  refine j_iconst (pc := 17) C dL_doubtBehind_17 ?_
  exact j_iret (pc := 18) C hr dL_doubtBehind_18 (by rfl) (by rfl) (by decide) (by decide)
set_option maxHeartbeats 4000000 in
set_option maxRecDepth 100000 in
theorem kL_doubtBehind_x1 (l : Launch) (D : va_G) (h : Nat → Nat) (c1 c2 c3 : ClassId) (K Dm : Int → Int) (L : Int) (lo hi su db : Int → Int) (S dy li so sp : Int) (tu ah : Int → Int) (M : Int → Int → Int) (o9 : Nat) (f9 : Nat → Int64) (a b : Int) (hL0 : 0 ≤ L) (hL : L ≤ 12) (ha : zR a) (hb : zR b) (hn : ¬ (0 ≤ a ∧ a ≤ b ∧ b < L)) : cIX l yL_doubtBehind wsL_doubtBehind ({ frames := 8, cells := 1, slots := 6, locals := 134 }) D (tyS c1 c2 c3) [.ref (h 0), .int (zI a), .int (zI b), .ref o9] (wG h c1 c2 K Dm L lo hi su db S dy li so sp tu ah M ++ [(o9, .inl (c3, 1, .inr (.inl f9)))]) (wG h c1 c2 K Dm L lo hi su db S dy li so sp tu ah M ++ [(o9, .inl (c3, 1, .inr (.inl f9)))]) (zI 1) 1 6 := by
  refine cIX.of (cc := cL_doubtBehind) (maxL := 5) (ret := .int) (by decide) rfl (lv := [(0, .ref (h 0)), (1, .int (zI a)), (2, .int (zI b)), (3, .ref o9)]) [0, 1, 2, 3] rfl (Nat.le_of_ble_eq_true rfl) ?_
  intro htr p e s m args below meth c A C hr hx hT
  have C : GC p s m args meth c cL_doubtBehind 5 RL wsL_doubtBehind D (tyS c1 c2 c3) A := C
  refine j_aload_n (pc := 0) C dL_doubtBehind_0 3 rfl ?_
  refine j_iconst (pc := 1) C dL_doubtBehind_1 ?_
  refine j_aload_n (pc := 2) C dL_doubtBehind_2 0 rfl ?_
  refine j_iload_n (pc := 3) C dL_doubtBehind_3 1 rfl ?_
  refine j_iload_n (pc := 4) C dL_doubtBehind_4 2 rfl ?_
  refine j_callXI_catch (pc := 5) C htr hx (As := [.int (zI a), .int (zI b)]) (rest := [.int (zI 0), .ref o9]) rfl (xX0_doubtBehind_x1 l D h c1 c2 c3 K Dm L lo hi su db S dy li so sp tu ah M a b hL0 hL ha hb hn) (cwV 2 C.2.2.2.2.1 gL_doubtBehind_X0_doubtBehind rfl rfl rfl (by decide +kernel) ⟨Nat.le_of_ble_eq_true rfl, Nat.le_of_ble_eq_true rfl⟩) 0 (ci := 0) rfl rfl rfl dL_doubtBehind_5 rfl rfl (Nat.le_of_ble_eq_true rfl) (by decide) [] ⟨0, 10, 13, 34⟩ [] hT (fun z hz => absurd hz List.not_mem_nil) (by decide) (by decide) (C.w 1 rfl) (List.mem_of_getElem? (i := 2) rfl) (fun q9 => ?_)
  refine j_astore (pc := 13) C (lv' := [(0, .ref (h 0)), (1, .int (zI a)), (2, .int (zI b)), (3, .ref o9), (4, .ref q9)]) dL_doubtBehind_13 (by decide) [1, 2, 3, 4, 0] rfl ?_
  refine j_iconst (pc := 15) C dL_doubtBehind_15 ?_
  exact j_iret (pc := 16) C hr dL_doubtBehind_16 (by rfl) (by rfl) (by decide) (by decide)
set_option maxHeartbeats 4000000 in
set_option maxRecDepth 100000 in
theorem kL_dampnessIn (l : Launch) (D : va_G) (h : Nat → Nat) (c1 c2 c3 : ClassId) (K Dm : Int → Int) (L : Int) (lo hi su db : Int → Int) (S dy li so sp : Int) (tu ah : Int → Int) (M : Int → Int → Int) (o9 : Nat) (f9 : Nat → Int64) (a b : Int) (hL0 : 0 ≤ L) (hL : L ≤ 12) (hf : ∀ j, 0 ≤ j → j < L → 0 ≤ Dm j ∧ Dm j ≤ 40) (h0 : 0 ≤ a) (h1 : a < L) (h2 : 1 ≤ b) (h3 : b ≤ 50) : cIX l yL_dampnessIn wsL_dampnessIn ({ frames := 5, cells := 1, slots := 6, locals := 116 }) D (tyS c1 c2 c3) [.ref (h 0), .int (zI a), .int (zI b), .ref o9] (wG h c1 c2 K Dm L lo hi su db S dy li so sp tu ah M ++ [(o9, .inl (c3, 1, .inr (.inl f9)))]) (wG h c1 c2 K Dm L lo hi su db S dy li so sp (dayT (mix Dm ah L) L tu b) (dayF (mix Dm ah L) L b) M ++ [(o9, .inl (c3, 1, .inr (.inl (vp_updL f9 0 ((zI ((dayF (mix Dm ah L) L b) a)).toInt64)))))]) (zI 0) 1 6 := by
  refine cIX.of (cc := cL_dampnessIn) (maxL := 5) (ret := .int) (by decide) rfl (lv := [(0, .ref (h 0)), (1, .int (zI a)), (2, .int (zI b)), (3, .ref o9)]) [0, 1, 2, 3] rfl (Nat.le_of_ble_eq_true rfl) ?_
  intro htr p e s m args below meth c A C hr hx hT
  have C : GC p s m args meth c cL_dampnessIn 5 RL wsL_dampnessIn D (tyS c1 c2 c3) A := C
  refine j_aload_n (pc := 0) C dL_dampnessIn_0 3 rfl ?_
  refine j_iconst (pc := 1) C dL_dampnessIn_1 ?_
  refine j_aload_n (pc := 2) C dL_dampnessIn_2 0 rfl ?_
  refine j_iload_n (pc := 3) C dL_dampnessIn_3 1 rfl ?_
  refine j_iload_n (pc := 4) C dL_dampnessIn_4 2 rfl ?_
  refine j_callFI (pc := 5) C (As := [.int (zI a), .int (zI b)]) (rest := [.int (zI 0), .ref o9]) (wr := [(o9, .inl (c3, 1, .inr (.inl f9)))]) (kX0_dampnessIn l D h c1 c2 c3 K Dm L lo hi su db S dy li so sp tu ah M a b hL0 hL hf h0 h1 h2 h3) [0, 1, 2] rfl (cwV 2 C.2.2.2.2.1 gL_dampnessIn_X0_dampnessIn rfl rfl rfl (by decide +kernel) ⟨Nat.le_of_ble_eq_true rfl, Nat.le_of_ble_eq_true rfl⟩) 0 (ci := 0) rfl rfl rfl dL_dampnessIn_5 rfl rfl (Nat.le_of_ble_eq_true rfl) (by decide) ?_
  refine j_i2l (pc := 8) C dL_dampnessIn_8 ?_
  refine j_last (pc := 9) C 23 2 rfl rfl (by decide) (by decide) (ws' := wG h c1 c2 K Dm L lo hi su db S dy li so sp (dayT (mix Dm ah L) L tu b) (dayF (mix Dm ah L) L b) M ++ [(o9, .inl (c3, 1, .inr (.inl (vp_updL f9 0 ((zI ((dayF (mix Dm ah L) L b) a)).toInt64)))))]) rfl dL_dampnessIn_9 ?_
  refine j_goto (pc := 10) C 21 dL_dampnessIn_10 (by decide) ?_
  refine j_iconst (pc := 21) C dL_dampnessIn_21 ?_
  exact j_iret (pc := 22) C hr dL_dampnessIn_22 (by rfl) (by rfl) (by decide) (by decide)
set_option maxHeartbeats 4000000 in
set_option maxRecDepth 100000 in
theorem kL_dampnessIn_x1 (l : Launch) (D : va_G) (h : Nat → Nat) (c1 c2 c3 : ClassId) (K Dm : Int → Int) (L : Int) (lo hi su db : Int → Int) (S dy li so sp : Int) (tu ah : Int → Int) (M : Int → Int → Int) (o9 : Nat) (f9 : Nat → Int64) (a b : Int) (hL0 : 0 ≤ L) (hL : L ≤ 12) (ha : zR a) (hn : ¬ (0 ≤ a ∧ a < L)) : cIX l yL_dampnessIn wsL_dampnessIn ({ frames := 8, cells := 1, slots := 6, locals := 133 }) D (tyS c1 c2 c3) [.ref (h 0), .int (zI a), .int (zI b), .ref o9] (wG h c1 c2 K Dm L lo hi su db S dy li so sp tu ah M ++ [(o9, .inl (c3, 1, .inr (.inl f9)))]) (wG h c1 c2 K Dm L lo hi su db S dy li so sp tu ah M ++ [(o9, .inl (c3, 1, .inr (.inl f9)))]) (zI 1) 1 6 := by
  refine cIX.of (cc := cL_dampnessIn) (maxL := 5) (ret := .int) (by decide) rfl (lv := [(0, .ref (h 0)), (1, .int (zI a)), (2, .int (zI b)), (3, .ref o9)]) [0, 1, 2, 3] rfl (Nat.le_of_ble_eq_true rfl) ?_
  intro htr p e s m args below meth c A C hr hx hT
  have C : GC p s m args meth c cL_dampnessIn 5 RL wsL_dampnessIn D (tyS c1 c2 c3) A := C
  refine j_aload_n (pc := 0) C dL_dampnessIn_0 3 rfl ?_
  refine j_iconst (pc := 1) C dL_dampnessIn_1 ?_
  refine j_aload_n (pc := 2) C dL_dampnessIn_2 0 rfl ?_
  refine j_iload_n (pc := 3) C dL_dampnessIn_3 1 rfl ?_
  refine j_iload_n (pc := 4) C dL_dampnessIn_4 2 rfl ?_
  refine j_callXI_catch (pc := 5) C htr hx (As := [.int (zI a), .int (zI b)]) (rest := [.int (zI 0), .ref o9]) rfl (xX0_dampnessIn_x1 l D h c1 c2 c3 K Dm L lo hi su db S dy li so sp tu ah M a b hL0 hL ha hn) (cwV 2 C.2.2.2.2.1 gL_dampnessIn_X0_dampnessIn rfl rfl rfl (by decide +kernel) ⟨Nat.le_of_ble_eq_true rfl, Nat.le_of_ble_eq_true rfl⟩) 0 (ci := 0) rfl rfl rfl dL_dampnessIn_5 rfl rfl (Nat.le_of_ble_eq_true rfl) (by decide) [] ⟨0, 10, 13, 34⟩ [⟨0, 10, 17, 13⟩] hT (fun z hz => absurd hz List.not_mem_nil) (by decide) (by decide) (C.w 1 rfl) (List.mem_of_getElem? (i := 2) rfl) (fun q9 => ?_)
  refine j_astore (pc := 13) C (lv' := [(0, .ref (h 0)), (1, .int (zI a)), (2, .int (zI b)), (3, .ref o9), (4, .ref q9)]) dL_dampnessIn_13 (by decide) [1, 2, 3, 4, 0] rfl ?_
  refine j_iconst (pc := 15) C dL_dampnessIn_15 ?_
  exact j_iret (pc := 16) C hr dL_dampnessIn_16 (by rfl) (by rfl) (by decide) (by decide)
set_option maxHeartbeats 4000000 in
set_option maxRecDepth 100000 in
theorem kL_dampnessIn_x2 (l : Launch) (D : va_G) (h : Nat → Nat) (c1 c2 c3 : ClassId) (K Dm : Int → Int) (L : Int) (lo hi su db : Int → Int) (S dy li so sp : Int) (tu ah : Int → Int) (M : Int → Int → Int) (o9 : Nat) (f9 : Nat → Int64) (a b : Int) (h0 : 0 ≤ a) (h1 : a < L) (h2 : L ≤ 12) (hb : zR b) (hn : ¬ (1 ≤ b ∧ b ≤ 50)) : cIX l yL_dampnessIn wsL_dampnessIn ({ frames := 8, cells := 1, slots := 6, locals := 132 }) D (tyS c1 c2 c3) [.ref (h 0), .int (zI a), .int (zI b), .ref o9] (wG h c1 c2 K Dm L lo hi su db S dy li so sp tu ah M ++ [(o9, .inl (c3, 1, .inr (.inl f9)))]) (wG h c1 c2 K Dm L lo hi su db S dy li so sp tu ah M ++ [(o9, .inl (c3, 1, .inr (.inl f9)))]) (zI 2) 1 6 := by
  refine cIX.of (cc := cL_dampnessIn) (maxL := 5) (ret := .int) (by decide) rfl (lv := [(0, .ref (h 0)), (1, .int (zI a)), (2, .int (zI b)), (3, .ref o9)]) [0, 1, 2, 3] rfl (Nat.le_of_ble_eq_true rfl) ?_
  intro htr p e s m args below meth c A C hr hx hT
  have C : GC p s m args meth c cL_dampnessIn 5 RL wsL_dampnessIn D (tyS c1 c2 c3) A := C
  refine j_aload_n (pc := 0) C dL_dampnessIn_0 3 rfl ?_
  refine j_iconst (pc := 1) C dL_dampnessIn_1 ?_
  refine j_aload_n (pc := 2) C dL_dampnessIn_2 0 rfl ?_
  refine j_iload_n (pc := 3) C dL_dampnessIn_3 1 rfl ?_
  refine j_iload_n (pc := 4) C dL_dampnessIn_4 2 rfl ?_
  refine j_callXI_catch (pc := 5) C htr hx (As := [.int (zI a), .int (zI b)]) (rest := [.int (zI 0), .ref o9]) rfl (xX0_dampnessIn_x2 l D h c1 c2 c3 K Dm L lo hi su db S dy li so sp tu ah M a b h0 h1 h2 hb hn) (cwV 2 C.2.2.2.2.1 gL_dampnessIn_X0_dampnessIn rfl rfl rfl (by decide +kernel) ⟨Nat.le_of_ble_eq_true rfl, Nat.le_of_ble_eq_true rfl⟩) 0 (ci := 0) rfl rfl rfl dL_dampnessIn_5 rfl rfl (Nat.le_of_ble_eq_true rfl) (by decide) [⟨0, 10, 13, 34⟩] ⟨0, 10, 17, 13⟩ [] hT (fun z hz => by obtain rfl := List.mem_singleton.mp hz; exact Or.inr ⟨by decide, _, (C.w 1 rfl), List.mem_of_getElem? (i := 1) rfl⟩) (by decide) (by decide) (C.w 2 rfl) (List.mem_of_getElem? (i := 0) rfl) (fun q9 => ?_)
  refine j_astore (pc := 17) C (lv' := [(0, .ref (h 0)), (1, .int (zI a)), (2, .int (zI b)), (3, .ref o9), (4, .ref q9)]) dL_dampnessIn_17 (by decide) [1, 2, 3, 4, 0] rfl ?_
  refine j_iconst (pc := 19) C dL_dampnessIn_19 ?_
  exact j_iret (pc := 20) C hr dL_dampnessIn_20 (by rfl) (by rfl) (by decide) (by decide)
set_option maxHeartbeats 4000000 in
set_option maxRecDepth 100000 in
theorem kL_isKnown (l : Launch) (D : va_G) (h : Nat → Nat) (c1 c2 c3 : ClassId) (K Dm : Int → Int) (L : Int) (lo hi su db : Int → Int) (S dy li so sp : Int) (tu ah : Int → Int) (M : Int → Int → Int) (o9 : Nat) (f9 : Nat → Int64) (a : Int) (hok : okS Dm L lo hi su db S) (h0 : 0 ≤ a) (h1 : a < L) (hkn : -((wg L lo hi su db M S) (a + 1) a) = (wg L lo hi su db M S) a (a + 1)) : cIX l yL_isKnown wsL_isKnown ({ frames := 4, cells := 1, slots := 6, locals := 90 }) D (tyS c1 c2 c3) [.ref (h 0), .int (zI a), .ref o9] (wG h c1 c2 K Dm L lo hi su db S dy li so sp tu ah M ++ [(o9, .inl (c3, 1, .inr (.inl f9)))]) (wG h c1 c2 K Dm L lo hi su db S dy li so sp tu ah (wg L lo hi su db M S) ++ [(o9, .inl (c3, 1, .inr (.inl (vp_updL f9 0 1))))]) (zI 0) 1 6 := by
  refine cIX.of (cc := cL_isKnown) (maxL := 4) (ret := .int) (by decide) rfl (lv := [(0, .ref (h 0)), (1, .int (zI a)), (2, .ref o9)]) [0, 1, 2] rfl (Nat.le_of_ble_eq_true rfl) ?_
  intro htr p e s m args below meth c A C hr hx hT
  have C : GC p s m args meth c cL_isKnown 4 RL wsL_isKnown D (tyS c1 c2 c3) A := C
  refine j_aload_n (pc := 0) C dL_isKnown_0 2 rfl ?_
  refine j_iconst (pc := 1) C dL_isKnown_1 ?_
  refine j_aload_n (pc := 2) C dL_isKnown_2 0 rfl ?_
  refine j_iload_n (pc := 3) C dL_isKnown_3 1 rfl ?_
  refine j_callFI (pc := 4) C (As := [.int (zI a)]) (rest := [.int (zI 0), .ref o9]) (wr := [(o9, .inl (c3, 1, .inr (.inl f9)))]) (kX0_isKnown l D h c1 c2 c3 K Dm L lo hi su db S dy li so sp tu ah M a hok h0 h1) [0, 1, 2] rfl (cwV 1 C.2.2.2.2.1 gL_isKnown_X0_isKnown rfl rfl rfl (by decide +kernel) ⟨Nat.le_of_ble_eq_true rfl, Nat.le_of_ble_eq_true rfl⟩) 0 (ci := 0) rfl rfl rfl dL_isKnown_4 rfl rfl (Nat.le_of_ble_eq_true rfl) (by decide) ?_
  refine j_if_eq (pc := 7) C 14 dL_isKnown_7 (by decide) ⟨by omega, by omega⟩ (fun c_7 => absurd c_7 (by omega)) (fun c_7 => ?_)
  refine j_lconst (pc := 10) C (v := 1) dL_isKnown_10 rfl ?_
  refine j_goto (pc := 11) C 15 dL_isKnown_11 (by decide) ?_
  refine j_last (pc := 15) C 23 2 rfl rfl (by decide) (by decide) (ws' := wG h c1 c2 K Dm L lo hi su db S dy li so sp tu ah (wg L lo hi su db M S) ++ [(o9, .inl (c3, 1, .inr (.inl (vp_updL f9 0 1))))]) rfl dL_isKnown_15 ?_
  refine j_goto (pc := 16) C 22 dL_isKnown_16 (by decide) ?_
  refine j_iconst (pc := 22) C dL_isKnown_22 ?_
  exact j_iret (pc := 23) C hr dL_isKnown_23 (by rfl) (by rfl) (by decide) (by decide)
set_option maxHeartbeats 4000000 in
set_option maxRecDepth 100000 in
theorem kL_isKnown_f (l : Launch) (D : va_G) (h : Nat → Nat) (c1 c2 c3 : ClassId) (K Dm : Int → Int) (L : Int) (lo hi su db : Int → Int) (S dy li so sp : Int) (tu ah : Int → Int) (M : Int → Int → Int) (o9 : Nat) (f9 : Nat → Int64) (a : Int) (hok : okS Dm L lo hi su db S) (h0 : 0 ≤ a) (h1 : a < L) (hkn : ¬ -((wg L lo hi su db M S) (a + 1) a) = (wg L lo hi su db M S) a (a + 1)) : cIX l yL_isKnown wsL_isKnown ({ frames := 4, cells := 1, slots := 6, locals := 90 }) D (tyS c1 c2 c3) [.ref (h 0), .int (zI a), .ref o9] (wG h c1 c2 K Dm L lo hi su db S dy li so sp tu ah M ++ [(o9, .inl (c3, 1, .inr (.inl f9)))]) (wG h c1 c2 K Dm L lo hi su db S dy li so sp tu ah (wg L lo hi su db M S) ++ [(o9, .inl (c3, 1, .inr (.inl (vp_updL f9 0 0))))]) (zI 0) 1 6 := by
  refine cIX.of (cc := cL_isKnown) (maxL := 4) (ret := .int) (by decide) rfl (lv := [(0, .ref (h 0)), (1, .int (zI a)), (2, .ref o9)]) [0, 1, 2] rfl (Nat.le_of_ble_eq_true rfl) ?_
  intro htr p e s m args below meth c A C hr hx hT
  have C : GC p s m args meth c cL_isKnown 4 RL wsL_isKnown D (tyS c1 c2 c3) A := C
  refine j_aload_n (pc := 0) C dL_isKnown_0 2 rfl ?_
  refine j_iconst (pc := 1) C dL_isKnown_1 ?_
  refine j_aload_n (pc := 2) C dL_isKnown_2 0 rfl ?_
  refine j_iload_n (pc := 3) C dL_isKnown_3 1 rfl ?_
  refine j_callFI (pc := 4) C (As := [.int (zI a)]) (rest := [.int (zI 0), .ref o9]) (wr := [(o9, .inl (c3, 1, .inr (.inl f9)))]) (kX0_isKnown l D h c1 c2 c3 K Dm L lo hi su db S dy li so sp tu ah M a hok h0 h1) [0, 1, 2] rfl (cwV 1 C.2.2.2.2.1 gL_isKnown_X0_isKnown rfl rfl rfl (by decide +kernel) ⟨Nat.le_of_ble_eq_true rfl, Nat.le_of_ble_eq_true rfl⟩) 0 (ci := 0) rfl rfl rfl dL_isKnown_4 rfl rfl (Nat.le_of_ble_eq_true rfl) (by decide) ?_
  refine j_if_eq (pc := 7) C 14 dL_isKnown_7 (by decide) ⟨by omega, by omega⟩ (fun c_7 => ?_) (fun c_7 => absurd c_7 (by omega))
  refine j_lconst (pc := 14) C (v := 0) dL_isKnown_14 rfl ?_
  refine j_last (pc := 15) C 23 2 rfl rfl (by decide) (by decide) (ws' := wG h c1 c2 K Dm L lo hi su db S dy li so sp tu ah (wg L lo hi su db M S) ++ [(o9, .inl (c3, 1, .inr (.inl (vp_updL f9 0 0))))]) rfl dL_isKnown_15 ?_
  refine j_goto (pc := 16) C 22 dL_isKnown_16 (by decide) ?_
  refine j_iconst (pc := 22) C dL_isKnown_22 ?_
  exact j_iret (pc := 23) C hr dL_isKnown_23 (by rfl) (by rfl) (by decide) (by decide)
set_option maxHeartbeats 4000000 in
set_option maxRecDepth 100000 in
theorem kL_isKnown_x1 (l : Launch) (D : va_G) (h : Nat → Nat) (c1 c2 c3 : ClassId) (K Dm : Int → Int) (L : Int) (lo hi su db : Int → Int) (S dy li so sp : Int) (tu ah : Int → Int) (M : Int → Int → Int) (o9 : Nat) (f9 : Nat → Int64) (a : Int) (hL0 : 0 ≤ L) (hL : L ≤ 12) (ha : zR a) (hn : ¬ (0 ≤ a ∧ a < L)) : cIX l yL_isKnown wsL_isKnown ({ frames := 8, cells := 1, slots := 6, locals := 132 }) D (tyS c1 c2 c3) [.ref (h 0), .int (zI a), .ref o9] (wG h c1 c2 K Dm L lo hi su db S dy li so sp tu ah M ++ [(o9, .inl (c3, 1, .inr (.inl f9)))]) (wG h c1 c2 K Dm L lo hi su db S dy li so sp tu ah M ++ [(o9, .inl (c3, 1, .inr (.inl f9)))]) (zI 1) 1 6 := by
  refine cIX.of (cc := cL_isKnown) (maxL := 4) (ret := .int) (by decide) rfl (lv := [(0, .ref (h 0)), (1, .int (zI a)), (2, .ref o9)]) [0, 1, 2] rfl (Nat.le_of_ble_eq_true rfl) ?_
  intro htr p e s m args below meth c A C hr hx hT
  have C : GC p s m args meth c cL_isKnown 4 RL wsL_isKnown D (tyS c1 c2 c3) A := C
  refine j_aload_n (pc := 0) C dL_isKnown_0 2 rfl ?_
  refine j_iconst (pc := 1) C dL_isKnown_1 ?_
  refine j_aload_n (pc := 2) C dL_isKnown_2 0 rfl ?_
  refine j_iload_n (pc := 3) C dL_isKnown_3 1 rfl ?_
  refine j_callXI_catch (pc := 4) C htr hx (As := [.int (zI a)]) (rest := [.int (zI 0), .ref o9]) rfl (xX0_isKnown_x1 l D h c1 c2 c3 K Dm L lo hi su db S dy li so sp tu ah M a hL0 hL ha hn) (cwV 1 C.2.2.2.2.1 gL_isKnown_X0_isKnown rfl rfl rfl (by decide +kernel) ⟨Nat.le_of_ble_eq_true rfl, Nat.le_of_ble_eq_true rfl⟩) 0 (ci := 0) rfl rfl rfl dL_isKnown_4 rfl rfl (Nat.le_of_ble_eq_true rfl) (by decide) [] ⟨0, 16, 19, 34⟩ [] hT (fun z hz => absurd hz List.not_mem_nil) (by decide) (by decide) (C.w 1 rfl) (List.mem_of_getElem? (i := 2) rfl) (fun q9 => ?_)
  refine j_astore_n (pc := 19) C (lv' := [(0, .ref (h 0)), (1, .int (zI a)), (2, .ref o9), (3, .ref q9)]) dL_isKnown_19 (by decide) [1, 2, 3, 0] rfl ?_
  refine j_iconst (pc := 20) C dL_isKnown_20 ?_
  exact j_iret (pc := 21) C hr dL_isKnown_21 (by rfl) (by rfl) (by decide) (by decide)
