/-! ===== GrainSilo: where it throws ===== -/
set_option maxHeartbeats 4000000 in
set_option maxRecDepth 100000 in
theorem xX0_checkDays_x (l : Launch) (D : va_G) (c1 c2 c3 : ClassId) (a : Int) (ha : zR a) (hn : ¬ (1 ≤ a ∧ a ≤ 50)) : cXV l yX0_checkDays wsX0_checkDays ({ frames := 6, cells := 1, slots := 6, locals := 90 }) D (tyS c1 c2 c3) [.int (zI a)] ([]) "java/lang/IllegalArgumentException" 1 6 := by
  refine cXV.of (cc := cX0_checkDays) (maxL := 1) (ret := none) (by decide) rfl (lv := [(0, .int (zI a))]) [0] rfl (Nat.le_of_ble_eq_true rfl) ?_
  intro htr p e s m args below meth c A C hx hno
  have C : GC p s m args meth c cX0_checkDays 1 RX0 wsX0_checkDays D (tyS c1 c2 c3) A := C
  obtain ⟨ha1, ha2⟩ := ha
  refine j_iload_n (pc := 0) C dX0_checkDays_0 0 rfl ?_
  refine j_iconst (pc := 1) C dX0_checkDays_1 ?_
  refine j_icmp_lt (pc := 2) C 11 dX0_checkDays_2 (by decide) ⟨by omega, by omega⟩ ⟨by omega, by omega⟩ (fun c_2 => ?_) (fun c_2 => ?_)
  · skip
    exact j_throwS (pc := 11) C htr hx hno (names := ["java/lang/RuntimeException", "java/lang/Exception"]) (by decide +kernel) x_names (C.w 1 rfl) (C.w 2 rfl) (List.mem_of_getElem? (i := 2) rfl) (fun _ h => List.mem_cons_of_mem _ (List.mem_append_right _ h)) x_bad54 x_tab x_ot54 dX0_checkDays_11 dX0_checkDays_14 dX0_checkDays_15 dX0_checkDays_17 dX0_checkDays_20 (by decide) (Nat.le_of_ble_eq_true rfl) (by decide) (by decide) (by decide) (by decide)
  · skip
    refine j_iload_n (pc := 5) C dX0_checkDays_5 0 rfl ?_
    refine j_bipush (pc := 6) C dX0_checkDays_6 (by decide +kernel) ?_
    refine j_icmp_le (pc := 8) C 21 dX0_checkDays_8 (by decide) ⟨by omega, by omega⟩ ⟨by omega, by omega⟩ (fun c_8 => absurd c_8 (by omega)) (fun c_8 => ?_)
    exact j_throwS (pc := 11) C htr hx hno (names := ["java/lang/RuntimeException", "java/lang/Exception"]) (by decide +kernel) x_names (C.w 1 rfl) (C.w 2 rfl) (List.mem_of_getElem? (i := 2) rfl) (fun _ h => List.mem_cons_of_mem _ (List.mem_append_right _ h)) x_bad54 x_tab x_ot54 dX0_checkDays_11 dX0_checkDays_14 dX0_checkDays_15 dX0_checkDays_17 dX0_checkDays_20 (by decide) (Nat.le_of_ble_eq_true rfl) (by decide) (by decide) (by decide) (by decide)
set_option maxHeartbeats 4000000 in
set_option maxRecDepth 100000 in
theorem xX0_checkLayer_x (l : Launch) (D : va_G) (h : Nat → Nat) (c1 c2 c3 : ClassId) (K Dm : Int → Int) (L : Int) (lo hi su db : Int → Int) (S dy li so sp : Int) (tu ah : Int → Int) (M : Int → Int → Int) (a : Int) (hL0 : 0 ≤ L) (hL : L ≤ 12) (ha : zR a) (hn : ¬ (0 ≤ a ∧ a < L)) : cXV l yX0_checkLayer wsX0_checkLayer ({ frames := 6, cells := 1, slots := 6, locals := 90 }) D (tyS c1 c2 c3) [.ref (h 0), .int (zI a)] (wG h c1 c2 K Dm L lo hi su db S dy li so sp tu ah M) "java/lang/IndexOutOfBoundsException" 1 6 := by
  refine cXV.of (cc := cX0_checkLayer) (maxL := 2) (ret := none) (by decide) rfl (lv := [(0, .ref (h 0)), (1, .int (zI a))]) [0, 1] rfl (Nat.le_of_ble_eq_true rfl) ?_
  intro htr p e s m args below meth c A C hx hno
  have C : GC p s m args meth c cX0_checkLayer 2 RX0 wsX0_checkLayer D (tyS c1 c2 c3) A := C
  have hin : ∀ w ∈ wsX00, w ∈ wsX0_checkLayer := fun _ h => List.mem_cons_of_mem _ (List.mem_append_left _ (List.mem_append_right _ h))
  obtain ⟨ha1, ha2⟩ := ha
  refine j_iload_n (pc := 0) C dX0_checkLayer_0 1 rfl ?_
  refine j_if_lt (pc := 1) C 12 dX0_checkLayer_1 (by decide) ⟨by omega, by omega⟩ (fun c_1 => ?_) (fun c_1 => ?_)
  · skip
    exact j_throwS (pc := 12) C htr hx hno (names := ["java/lang/RuntimeException", "java/lang/Exception"]) (by decide +kernel) x_names (C.w 1 rfl) (C.w 2 rfl) (List.mem_of_getElem? (i := 3) rfl) (fun _ h => List.mem_cons_of_mem _ (List.mem_append_right _ h)) x_bad138 x_tab x_ot138 dX0_checkLayer_12 dX0_checkLayer_15 dX0_checkLayer_16 dX0_checkLayer_18 dX0_checkLayer_21 (by decide) (Nat.le_of_ble_eq_true rfl) (by decide) (by decide) (by decide) (by decide)
  · skip
    refine j_iload_n (pc := 4) C dX0_checkLayer_4 1 rfl ?_
    refine j_aload_n (pc := 5) C dX0_checkLayer_5 0 rfl ?_
    refine j_get (pc := 6) C (ref := "GrainSilo") (T := TX0) (N := 15) hin 0 rfl rfl 2 (by decide) (C.w 3 rfl) rfl rfl dX0_checkLayer_6 ?_
    refine j_icmp_lt (pc := 9) C 22 dX0_checkLayer_9 (by decide) ⟨by omega, by omega⟩ ⟨by omega, by omega⟩ (fun c_9 => absurd c_9 (by omega)) (fun c_9 => ?_)
    exact j_throwS (pc := 12) C htr hx hno (names := ["java/lang/RuntimeException", "java/lang/Exception"]) (by decide +kernel) x_names (C.w 1 rfl) (C.w 2 rfl) (List.mem_of_getElem? (i := 3) rfl) (fun _ h => List.mem_cons_of_mem _ (List.mem_append_right _ h)) x_bad138 x_tab x_ot138 dX0_checkLayer_12 dX0_checkLayer_15 dX0_checkLayer_16 dX0_checkLayer_18 dX0_checkLayer_21 (by decide) (Nat.le_of_ble_eq_true rfl) (by decide) (by decide) (by decide) (by decide)
set_option maxHeartbeats 4000000 in
set_option maxRecDepth 100000 in
theorem xX0_checkSample_x (l : Launch) (D : va_G) (h : Nat → Nat) (c1 c2 c3 : ClassId) (K Dm : Int → Int) (L : Int) (lo hi su db : Int → Int) (S dy li so sp : Int) (tu ah : Int → Int) (M : Int → Int → Int) (a : Int) (hS0 : 0 ≤ S) (hS : S ≤ 16) (ha : zR a) (hn : ¬ (0 ≤ a ∧ a < S)) : cXV l yX0_checkSample wsX0_checkSample ({ frames := 6, cells := 1, slots := 6, locals := 90 }) D (tyS c1 c2 c3) [.ref (h 0), .int (zI a)] (wG h c1 c2 K Dm L lo hi su db S dy li so sp tu ah M) "java/lang/IndexOutOfBoundsException" 1 6 := by
  refine cXV.of (cc := cX0_checkSample) (maxL := 2) (ret := none) (by decide) rfl (lv := [(0, .ref (h 0)), (1, .int (zI a))]) [0, 1] rfl (Nat.le_of_ble_eq_true rfl) ?_
  intro htr p e s m args below meth c A C hx hno
  have C : GC p s m args meth c cX0_checkSample 2 RX0 wsX0_checkSample D (tyS c1 c2 c3) A := C
  have hin : ∀ w ∈ wsX00, w ∈ wsX0_checkSample := fun _ h => List.mem_cons_of_mem _ (List.mem_append_left _ (List.mem_append_right _ h))
  obtain ⟨ha1, ha2⟩ := ha
  refine j_iload_n (pc := 0) C dX0_checkSample_0 1 rfl ?_
  refine j_if_lt (pc := 1) C 12 dX0_checkSample_1 (by decide) ⟨by omega, by omega⟩ (fun c_1 => ?_) (fun c_1 => ?_)
  · skip
    exact j_throwS (pc := 12) C htr hx hno (names := ["java/lang/RuntimeException", "java/lang/Exception"]) (by decide +kernel) x_names (C.w 1 rfl) (C.w 2 rfl) (List.mem_of_getElem? (i := 5) rfl) (fun _ h => List.mem_cons_of_mem _ (List.mem_append_right _ h)) x_bad138 x_tab x_ot138 dX0_checkSample_12 dX0_checkSample_15 dX0_checkSample_16 dX0_checkSample_18 dX0_checkSample_21 (by decide) (Nat.le_of_ble_eq_true rfl) (by decide) (by decide) (by decide) (by decide)
  · skip
    refine j_iload_n (pc := 4) C dX0_checkSample_4 1 rfl ?_
    refine j_aload_n (pc := 5) C dX0_checkSample_5 0 rfl ?_
    refine j_get (pc := 6) C (ref := "GrainSilo") (T := TX0) (N := 15) hin 0 rfl rfl 7 (by decide) (C.w 3 rfl) rfl rfl dX0_checkSample_6 ?_
    refine j_icmp_lt (pc := 9) C 22 dX0_checkSample_9 (by decide) ⟨by omega, by omega⟩ ⟨by omega, by omega⟩ (fun c_9 => absurd c_9 (by omega)) (fun c_9 => ?_)
    exact j_throwS (pc := 12) C htr hx hno (names := ["java/lang/RuntimeException", "java/lang/Exception"]) (by decide +kernel) x_names (C.w 1 rfl) (C.w 2 rfl) (List.mem_of_getElem? (i := 5) rfl) (fun _ h => List.mem_cons_of_mem _ (List.mem_append_right _ h)) x_bad138 x_tab x_ot138 dX0_checkSample_12 dX0_checkSample_15 dX0_checkSample_16 dX0_checkSample_18 dX0_checkSample_21 (by decide) (Nat.le_of_ble_eq_true rfl) (by decide) (by decide) (by decide) (by decide)
set_option maxHeartbeats 4000000 in
set_option maxRecDepth 100000 in
theorem xX0_checkLayers_x (l : Launch) (D : va_G) (h : Nat → Nat) (c1 c2 c3 : ClassId) (K Dm : Int → Int) (L : Int) (lo hi su db : Int → Int) (S dy li so sp : Int) (tu ah : Int → Int) (M : Int → Int → Int) (a b : Int) (hL0 : 0 ≤ L) (hL : L ≤ 12) (ha : zR a) (hb : zR b) (hn : ¬ (0 ≤ a ∧ a ≤ b ∧ b < L)) : cXV l yX0_checkLayers wsX0_checkLayers ({ frames := 6, cells := 1, slots := 6, locals := 90 }) D (tyS c1 c2 c3) [.ref (h 0), .int (zI a), .int (zI b)] (wG h c1 c2 K Dm L lo hi su db S dy li so sp tu ah M) "java/lang/IndexOutOfBoundsException" 1 6 := by
  refine cXV.of (cc := cX0_checkLayers) (maxL := 3) (ret := none) (by decide) rfl (lv := [(0, .ref (h 0)), (1, .int (zI a)), (2, .int (zI b))]) [0, 1, 2] rfl (Nat.le_of_ble_eq_true rfl) ?_
  intro htr p e s m args below meth c A C hx hno
  have C : GC p s m args meth c cX0_checkLayers 3 RX0 wsX0_checkLayers D (tyS c1 c2 c3) A := C
  have hin : ∀ w ∈ wsX00, w ∈ wsX0_checkLayers := fun _ h => List.mem_cons_of_mem _ (List.mem_append_left _ (List.mem_append_right _ h))
  obtain ⟨ha1, ha2⟩ := ha
  obtain ⟨hb1, hb2⟩ := hb
  refine j_iload_n (pc := 0) C dX0_checkLayers_0 1 rfl ?_
  refine j_if_lt (pc := 1) C 17 dX0_checkLayers_1 (by decide) ⟨by omega, by omega⟩ (fun c_1 => ?_) (fun c_1 => ?_)
  · skip
    exact j_throwS (pc := 17) C htr hx hno (names := ["java/lang/RuntimeException", "java/lang/Exception"]) (by decide +kernel) x_names (C.w 1 rfl) (C.w 2 rfl) (List.mem_of_getElem? (i := 4) rfl) (fun _ h => List.mem_cons_of_mem _ (List.mem_append_right _ h)) x_bad138 x_tab x_ot138 dX0_checkLayers_17 dX0_checkLayers_20 dX0_checkLayers_21 dX0_checkLayers_23 dX0_checkLayers_26 (by decide) (Nat.le_of_ble_eq_true rfl) (by decide) (by decide) (by decide) (by decide)
  · skip
    refine j_iload_n (pc := 4) C dX0_checkLayers_4 2 rfl ?_
    refine j_aload_n (pc := 5) C dX0_checkLayers_5 0 rfl ?_
    refine j_get (pc := 6) C (ref := "GrainSilo") (T := TX0) (N := 15) hin 0 rfl rfl 2 (by decide) (C.w 3 rfl) rfl rfl dX0_checkLayers_6 ?_
    refine j_icmp_ge (pc := 9) C 17 dX0_checkLayers_9 (by decide) ⟨by omega, by omega⟩ ⟨by omega, by omega⟩ (fun c_9 => ?_) (fun c_9 => ?_)
    · skip
      exact j_throwS (pc := 17) C htr hx hno (names := ["java/lang/RuntimeException", "java/lang/Exception"]) (by decide +kernel) x_names (C.w 1 rfl) (C.w 2 rfl) (List.mem_of_getElem? (i := 4) rfl) (fun _ h => List.mem_cons_of_mem _ (List.mem_append_right _ h)) x_bad138 x_tab x_ot138 dX0_checkLayers_17 dX0_checkLayers_20 dX0_checkLayers_21 dX0_checkLayers_23 dX0_checkLayers_26 (by decide) (Nat.le_of_ble_eq_true rfl) (by decide) (by decide) (by decide) (by decide)
    · skip
      refine j_iload_n (pc := 12) C dX0_checkLayers_12 1 rfl ?_
      refine j_iload_n (pc := 13) C dX0_checkLayers_13 2 rfl ?_
      refine j_icmp_le (pc := 14) C 27 dX0_checkLayers_14 (by decide) ⟨by omega, by omega⟩ ⟨by omega, by omega⟩ (fun c_14 => absurd c_14 (by omega)) (fun c_14 => ?_)
      exact j_throwS (pc := 17) C htr hx hno (names := ["java/lang/RuntimeException", "java/lang/Exception"]) (by decide +kernel) x_names (C.w 1 rfl) (C.w 2 rfl) (List.mem_of_getElem? (i := 4) rfl) (fun _ h => List.mem_cons_of_mem _ (List.mem_append_right _ h)) x_bad138 x_tab x_ot138 dX0_checkLayers_17 dX0_checkLayers_20 dX0_checkLayers_21 dX0_checkLayers_23 dX0_checkLayers_26 (by decide) (Nat.le_of_ble_eq_true rfl) (by decide) (by decide) (by decide) (by decide)
set_option maxHeartbeats 4000000 in
set_option maxRecDepth 100000 in
theorem xX0_checkNotEmpty_x (l : Launch) (D : va_G) (h : Nat → Nat) (c1 c2 c3 : ClassId) (K Dm : Int → Int) (L : Int) (lo hi su db : Int → Int) (S dy li so sp : Int) (tu ah : Int → Int) (M : Int → Int → Int) (hL : L = 0) : cXV l yX0_checkNotEmpty wsX0_checkNotEmpty ({ frames := 6, cells := 1, slots := 6, locals := 90 }) D (tyS c1 c2 c3) [.ref (h 0)] (wG h c1 c2 K Dm L lo hi su db S dy li so sp tu ah M) "java/lang/IllegalStateException" 1 6 := by
  refine cXV.of (cc := cX0_checkNotEmpty) (maxL := 1) (ret := none) (by decide) rfl (lv := [(0, .ref (h 0))]) [0] rfl (Nat.le_of_ble_eq_true rfl) ?_
  intro htr p e s m args below meth c A C hx hno
  have C : GC p s m args meth c cX0_checkNotEmpty 1 RX0 wsX0_checkNotEmpty D (tyS c1 c2 c3) A := C
  have hin : ∀ w ∈ wsX00, w ∈ wsX0_checkNotEmpty := fun _ h => List.mem_cons_of_mem _ (List.mem_append_left _ (List.mem_append_right _ h))
  refine j_aload_n (pc := 0) C dX0_checkNotEmpty_0 0 rfl ?_
  refine j_get (pc := 1) C (ref := "GrainSilo") (T := TX0) (N := 15) hin 0 rfl rfl 2 (by decide) (C.w 3 rfl) rfl rfl dX0_checkNotEmpty_1 ?_
  refine j_if_ne (pc := 4) C 17 dX0_checkNotEmpty_4 (by decide) ⟨by omega, by omega⟩ (fun c_4 => absurd c_4 (by omega)) (fun c_4 => ?_)
  exact j_throwS (pc := 7) C htr hx hno (names := ["java/lang/RuntimeException", "java/lang/Exception"]) (by decide +kernel) x_names (C.w 1 rfl) (C.w 2 rfl) (List.mem_of_getElem? (i := 8) rfl) (fun _ h => List.mem_cons_of_mem _ (List.mem_append_right _ h)) x_bad64 x_tab x_ot64 dX0_checkNotEmpty_7 dX0_checkNotEmpty_10 dX0_checkNotEmpty_11 dX0_checkNotEmpty_13 dX0_checkNotEmpty_16 (by decide) (Nat.le_of_ble_eq_true rfl) (by decide) (by decide) (by decide) (by decide)
set_option maxHeartbeats 4000000 in
set_option maxRecDepth 100000 in
theorem xX0_fill_x1 (l : Launch) (D : va_G) (h : Nat → Nat) (c1 c2 c3 : ClassId) (K Dm : Int → Int) (L : Int) (lo hi su db : Int → Int) (S dy li so sp : Int) (tu ah : Int → Int) (M : Int → Int → Int) (a b : Int) (ha : zR a) (hb : zR b) (hn : ¬ (0 ≤ a ∧ a ≤ 4 ∧ 0 ≤ b ∧ b ≤ 40)) : cXI l yX0_fill wsX0_fill ({ frames := 6, cells := 1, slots := 6, locals := 90 }) D (tyS c1 c2 c3) [.ref (h 0), .int (zI a), .int (zI b)] (wG h c1 c2 K Dm L lo hi su db S dy li so sp tu ah M) "java/lang/IllegalArgumentException" 1 6 := by
  refine cXI.of (cc := cX0_fill) (maxL := 3) (ret := (some .int)) (by decide) rfl (lv := [(0, .ref (h 0)), (1, .int (zI a)), (2, .int (zI b))]) [0, 1, 2] rfl (Nat.le_of_ble_eq_true rfl) ?_
  intro htr p e s m args below meth c A C hx hno
  have C : GC p s m args meth c cX0_fill 3 RX0 wsX0_fill D (tyS c1 c2 c3) A := C
  have hin : ∀ w ∈ wsX00, w ∈ wsX0_fill := fun _ h => List.mem_cons_of_mem _ (List.mem_append_left _ (List.mem_append_left _ (List.mem_append_right _ h)))
  obtain ⟨ha1, ha2⟩ := ha
  obtain ⟨hb1, hb2⟩ := hb
  refine j_iload_n (pc := 0) C dX0_fill_0 1 rfl ?_
  refine j_callSI (pc := 1) C (As := [.int (zI a)]) (rest := []) (kX0_isKind l D c1 c2 c3 a ⟨by omega, by omega⟩) (va_cwS 1 C.2.2.2.2.1 gX0_fill_X0_isKind rfl rfl rfl (by decide +kernel) ⟨Nat.le_of_ble_eq_true rfl, Nat.le_of_ble_eq_true rfl⟩) dX0_fill_1 rfl rfl (Nat.le_of_ble_eq_true rfl) (by decide) ?_
  refine j_if_eq (pc := 4) C 14 dX0_fill_4 (by decide) ⟨by omega, by omega⟩ (fun c_4 => ?_) (fun c_4 => ?_)
  · skip
    exact j_throwS (pc := 14) C htr hx hno (names := ["java/lang/RuntimeException", "java/lang/Exception"]) (by decide +kernel) x_names (C.w 1 rfl) (C.w 2 rfl) (List.mem_of_getElem? (i := 6) rfl) (fun _ h => List.mem_cons_of_mem _ (List.mem_append_left _ (List.mem_append_right _ h))) x_bad54 x_tab x_ot54 dX0_fill_14 dX0_fill_17 dX0_fill_18 dX0_fill_20 dX0_fill_23 (by decide) (Nat.le_of_ble_eq_true rfl) (by decide) (by decide) (by decide) (by decide)
  · skip
    refine j_iload_n (pc := 7) C dX0_fill_7 2 rfl ?_
    refine j_callSI (pc := 8) C (As := [.int (zI b)]) (rest := []) (kX0_isDampness l D c1 c2 c3 b ⟨by omega, by omega⟩) (va_cwS 1 C.2.2.2.2.1 gX0_fill_X0_isDampness rfl rfl rfl (by decide +kernel) ⟨Nat.le_of_ble_eq_true rfl, Nat.le_of_ble_eq_true rfl⟩) dX0_fill_8 rfl rfl (Nat.le_of_ble_eq_true rfl) (by decide) ?_
    refine j_if_ne (pc := 11) C 24 dX0_fill_11 (by decide) ⟨by omega, by omega⟩ (fun c_11 => absurd c_11 (by omega)) (fun c_11 => ?_)
    exact j_throwS (pc := 14) C htr hx hno (names := ["java/lang/RuntimeException", "java/lang/Exception"]) (by decide +kernel) x_names (C.w 1 rfl) (C.w 2 rfl) (List.mem_of_getElem? (i := 6) rfl) (fun _ h => List.mem_cons_of_mem _ (List.mem_append_left _ (List.mem_append_right _ h))) x_bad54 x_tab x_ot54 dX0_fill_14 dX0_fill_17 dX0_fill_18 dX0_fill_20 dX0_fill_23 (by decide) (Nat.le_of_ble_eq_true rfl) (by decide) (by decide) (by decide) (by decide)
set_option maxHeartbeats 4000000 in
set_option maxRecDepth 100000 in
theorem xX0_fill_x2 (l : Launch) (D : va_G) (h : Nat → Nat) (c1 c2 c3 : ClassId) (K Dm : Int → Int) (L : Int) (lo hi su db : Int → Int) (S dy li so sp : Int) (tu ah : Int → Int) (M : Int → Int → Int) (a b : Int) (h0 : 0 ≤ a) (h1 : a ≤ 4) (h2 : 0 ≤ b) (h3 : b ≤ 40) (hL : L = 12) : cXI l yX0_fill wsX0_fill ({ frames := 6, cells := 1, slots := 6, locals := 90 }) D (tyS c1 c2 c3) [.ref (h 0), .int (zI a), .int (zI b)] (wG h c1 c2 K Dm L lo hi su db S dy li so sp tu ah M) "java/lang/IllegalStateException" 1 6 := by
  refine cXI.of (cc := cX0_fill) (maxL := 3) (ret := (some .int)) (by decide) rfl (lv := [(0, .ref (h 0)), (1, .int (zI a)), (2, .int (zI b))]) [0, 1, 2] rfl (Nat.le_of_ble_eq_true rfl) ?_
  intro htr p e s m args below meth c A C hx hno
  have C : GC p s m args meth c cX0_fill 3 RX0 wsX0_fill D (tyS c1 c2 c3) A := C
  have hin : ∀ w ∈ wsX00, w ∈ wsX0_fill := fun _ h => List.mem_cons_of_mem _ (List.mem_append_left _ (List.mem_append_left _ (List.mem_append_right _ h)))
  refine j_iload_n (pc := 0) C dX0_fill_0 1 rfl ?_
  refine j_callSI (pc := 1) C (As := [.int (zI a)]) (rest := []) (kX0_isKind l D c1 c2 c3 a ⟨by omega, by omega⟩) (va_cwS 1 C.2.2.2.2.1 gX0_fill_X0_isKind rfl rfl rfl (by decide +kernel) ⟨Nat.le_of_ble_eq_true rfl, Nat.le_of_ble_eq_true rfl⟩) dX0_fill_1 rfl rfl (Nat.le_of_ble_eq_true rfl) (by decide) ?_
  refine j_if_eq (pc := 4) C 14 dX0_fill_4 (by decide) ⟨by omega, by omega⟩ (fun c_4 => absurd c_4 (by omega)) (fun c_4 => ?_)
  refine j_iload_n (pc := 7) C dX0_fill_7 2 rfl ?_
  refine j_callSI (pc := 8) C (As := [.int (zI b)]) (rest := []) (kX0_isDampness l D c1 c2 c3 b ⟨by omega, by omega⟩) (va_cwS 1 C.2.2.2.2.1 gX0_fill_X0_isDampness rfl rfl rfl (by decide +kernel) ⟨Nat.le_of_ble_eq_true rfl, Nat.le_of_ble_eq_true rfl⟩) dX0_fill_8 rfl rfl (Nat.le_of_ble_eq_true rfl) (by decide) ?_
  refine j_if_ne (pc := 11) C 24 dX0_fill_11 (by decide) ⟨by omega, by omega⟩ (fun c_11 => ?_) (fun c_11 => absurd c_11 (by omega))
  refine j_aload_n (pc := 24) C dX0_fill_24 0 rfl ?_
  refine j_get (pc := 25) C (ref := "GrainSilo") (T := TX0) (N := 15) hin 0 rfl rfl 2 (by decide) (C.w 5 rfl) rfl rfl dX0_fill_25 ?_
  refine j_bipush (pc := 28) C dX0_fill_28 (by decide +kernel) ?_
  refine j_icmp_lt (pc := 30) C 43 dX0_fill_30 (by decide) ⟨by omega, by omega⟩ ⟨by omega, by omega⟩ (fun c_30 => absurd c_30 (by omega)) (fun c_30 => ?_)
  exact j_throwS (pc := 33) C htr hx hno (names := ["java/lang/RuntimeException", "java/lang/Exception"]) (by decide +kernel) x_names (C.w 3 rfl) (C.w 4 rfl) (List.mem_of_getElem? (i := 7) rfl) (fun _ h => List.mem_cons_of_mem _ (List.mem_append_right _ h)) x_bad64 x_tab x_ot64 dX0_fill_33 dX0_fill_36 dX0_fill_37 dX0_fill_39 dX0_fill_42 (by decide) (Nat.le_of_ble_eq_true rfl) (by decide) (by decide) (by decide) (by decide)
set_option maxHeartbeats 4000000 in
set_option maxRecDepth 100000 in
theorem xX0_letOut_x1 (l : Launch) (D : va_G) (h : Nat → Nat) (c1 c2 c3 : ClassId) (K Dm : Int → Int) (L : Int) (lo hi su db : Int → Int) (S dy li so sp : Int) (tu ah : Int → Int) (M : Int → Int → Int) (hL : L = 0) : cXI l yX0_letOut wsX0_letOut ({ frames := 6, cells := 1, slots := 6, locals := 90 }) D (tyS c1 c2 c3) [.ref (h 0)] (wG h c1 c2 K Dm L lo hi su db S dy li so sp tu ah M) "java/lang/IllegalStateException" 1 6 := by
  refine cXI.of (cc := cX0_letOut) (maxL := 2) (ret := (some .int)) (by decide) rfl (lv := [(0, .ref (h 0))]) [0] rfl (Nat.le_of_ble_eq_true rfl) ?_
  intro htr p e s m args below meth c A C hx hno
  have C : GC p s m args meth c cX0_letOut 2 RX0 wsX0_letOut D (tyS c1 c2 c3) A := C
  have hin : ∀ w ∈ wsX00, w ∈ wsX0_letOut := fun _ h => List.mem_cons_of_mem _ (List.mem_append_left _ (List.mem_append_right _ h))
  refine j_aload_n (pc := 0) C dX0_letOut_0 0 rfl ?_
  refine j_get (pc := 1) C (ref := "GrainSilo") (T := TX0) (N := 15) hin 0 rfl rfl 2 (by decide) (C.w 3 rfl) rfl rfl dX0_letOut_1 ?_
  refine j_if_ne (pc := 4) C 17 dX0_letOut_4 (by decide) ⟨by omega, by omega⟩ (fun c_4 => absurd c_4 (by omega)) (fun c_4 => ?_)
  exact j_throwS (pc := 7) C htr hx hno (names := ["java/lang/RuntimeException", "java/lang/Exception"]) (by decide +kernel) x_names (C.w 1 rfl) (C.w 2 rfl) (List.mem_of_getElem? (i := 8) rfl) (fun _ h => List.mem_cons_of_mem _ (List.mem_append_right _ h)) x_bad64 x_tab x_ot64 dX0_letOut_7 dX0_letOut_10 dX0_letOut_11 dX0_letOut_13 dX0_letOut_16 (by decide) (Nat.le_of_ble_eq_true rfl) (by decide) (by decide) (by decide) (by decide)
set_option maxHeartbeats 4000000 in
set_option maxRecDepth 100000 in
theorem xX0_turnOver_x1 (l : Launch) (D : va_G) (h : Nat → Nat) (c1 c2 c3 : ClassId) (K Dm : Int → Int) (L : Int) (lo hi su db : Int → Int) (S dy li so sp : Int) (tu ah : Int → Int) (M : Int → Int → Int) (hL0 : 0 ≤ L) (hL : L < 2) : cXI l yX0_turnOver wsX0_turnOver ({ frames := 6, cells := 1, slots := 6, locals := 90 }) D (tyS c1 c2 c3) [.ref (h 0)] (wG h c1 c2 K Dm L lo hi su db S dy li so sp tu ah M) "java/lang/IllegalStateException" 1 6 := by
  refine cXI.of (cc := cX0_turnOver) (maxL := 4) (ret := (some .int)) (by decide) rfl (lv := [(0, .ref (h 0))]) [0] rfl (Nat.le_of_ble_eq_true rfl) ?_
  intro htr p e s m args below meth c A C hx hno
  have C : GC p s m args meth c cX0_turnOver 4 RX0 wsX0_turnOver D (tyS c1 c2 c3) A := C
  have hin : ∀ w ∈ wsX00, w ∈ wsX0_turnOver := fun _ h => List.mem_cons_of_mem _ (List.mem_append_left _ (List.mem_append_right _ h))
  refine j_aload_n (pc := 0) C dX0_turnOver_0 0 rfl ?_
  refine j_get (pc := 1) C (ref := "GrainSilo") (T := TX0) (N := 15) hin 0 rfl rfl 2 (by decide) (C.w 3 rfl) rfl rfl dX0_turnOver_1 ?_
  refine j_iconst (pc := 4) C dX0_turnOver_4 ?_
  refine j_icmp_ge (pc := 5) C 18 dX0_turnOver_5 (by decide) ⟨by omega, by omega⟩ ⟨by omega, by omega⟩ (fun c_5 => absurd c_5 (by omega)) (fun c_5 => ?_)
  exact j_throwS (pc := 8) C htr hx hno (names := ["java/lang/RuntimeException", "java/lang/Exception"]) (by decide +kernel) x_names (C.w 1 rfl) (C.w 2 rfl) (List.mem_of_getElem? (i := 9) rfl) (fun _ h => List.mem_cons_of_mem _ (List.mem_append_right _ h)) x_bad64 x_tab x_ot64 dX0_turnOver_8 dX0_turnOver_11 dX0_turnOver_12 dX0_turnOver_14 dX0_turnOver_17 (by decide) (Nat.le_of_ble_eq_true rfl) (by decide) (by decide) (by decide) (by decide)
set_option maxHeartbeats 4000000 in
set_option maxRecDepth 100000 in
theorem xX0_setLimit_x1 (l : Launch) (D : va_G) (h : Nat → Nat) (c1 c2 c3 : ClassId) (K Dm : Int → Int) (L : Int) (lo hi su db : Int → Int) (S dy li so sp : Int) (tu ah : Int → Int) (M : Int → Int → Int) (a : Int) (ha : zR a) (hn : ¬ (0 ≤ a ∧ a ≤ 40)) : cXI l yX0_setLimit wsX0_setLimit ({ frames := 6, cells := 1, slots := 6, locals := 90 }) D (tyS c1 c2 c3) [.ref (h 0), .int (zI a)] (wG h c1 c2 K Dm L lo hi su db S dy li so sp tu ah M) "java/lang/IllegalArgumentException" 1 6 := by
  refine cXI.of (cc := cX0_setLimit) (maxL := 3) (ret := (some .int)) (by decide) rfl (lv := [(0, .ref (h 0)), (1, .int (zI a))]) [0, 1] rfl (Nat.le_of_ble_eq_true rfl) ?_
  intro htr p e s m args below meth c A C hx hno
  have C : GC p s m args meth c cX0_setLimit 3 RX0 wsX0_setLimit D (tyS c1 c2 c3) A := C
  have hin : ∀ w ∈ wsX00, w ∈ wsX0_setLimit := fun _ h => List.mem_cons_of_mem _ (List.mem_append_left _ (List.mem_append_right _ h))
  obtain ⟨ha1, ha2⟩ := ha
  refine j_iload_n (pc := 0) C dX0_setLimit_0 1 rfl ?_
  refine j_callSI (pc := 1) C (As := [.int (zI a)]) (rest := []) (kX0_isDampness l D c1 c2 c3 a ⟨by omega, by omega⟩) (va_cwS 1 C.2.2.2.2.1 gX0_setLimit_X0_isDampness rfl rfl rfl (by decide +kernel) ⟨Nat.le_of_ble_eq_true rfl, Nat.le_of_ble_eq_true rfl⟩) dX0_setLimit_1 rfl rfl (Nat.le_of_ble_eq_true rfl) (by decide) ?_
  refine j_if_ne (pc := 4) C 17 dX0_setLimit_4 (by decide) ⟨by omega, by omega⟩ (fun c_4 => absurd c_4 (by omega)) (fun c_4 => ?_)
  exact j_throwS (pc := 7) C htr hx hno (names := ["java/lang/RuntimeException", "java/lang/Exception"]) (by decide +kernel) x_names (C.w 1 rfl) (C.w 2 rfl) (List.mem_of_getElem? (i := 10) rfl) (fun _ h => List.mem_cons_of_mem _ (List.mem_append_right _ h)) x_bad54 x_tab x_ot54 dX0_setLimit_7 dX0_setLimit_10 dX0_setLimit_11 dX0_setLimit_13 dX0_setLimit_16 (by decide) (Nat.le_of_ble_eq_true rfl) (by decide) (by decide) (by decide) (by decide)
set_option maxHeartbeats 4000000 in
set_option maxRecDepth 100000 in
theorem xX0_pass_x1 (l : Launch) (D : va_G) (h : Nat → Nat) (c1 c2 c3 : ClassId) (K Dm : Int → Int) (L : Int) (lo hi su db : Int → Int) (S dy li so sp : Int) (tu ah : Int → Int) (M : Int → Int → Int) (a : Int) (ha : zR a) (hn : ¬ (1 ≤ a ∧ a ≤ 50)) : cXI l yX0_pass wsX0_pass ({ frames := 7, cells := 1, slots := 6, locals := 110 }) D (tyS c1 c2 c3) [.ref (h 0), .int (zI a)] (wG h c1 c2 K Dm L lo hi su db S dy li so sp tu ah M) "java/lang/IllegalArgumentException" 1 6 := by
  refine cXI.of (cc := cX0_pass) (maxL := 3) (ret := (some .int)) (by decide) rfl (lv := [(0, .ref (h 0)), (1, .int (zI a))]) [0, 1] rfl (Nat.le_of_ble_eq_true rfl) ?_
  intro htr p e s m args below meth c A C hx hno
  have C : GC p s m args meth c cX0_pass 3 RX0 wsX0_pass D (tyS c1 c2 c3) A := C
  have hin : ∀ w ∈ wsX00, w ∈ wsX0_pass := fun _ h => List.mem_cons_of_mem _ (List.mem_append_left _ (List.mem_append_right _ h))
  obtain ⟨ha1, ha2⟩ := ha
  refine j_iload_n (pc := 0) C dX0_pass_0 1 rfl ?_
  exact j_callXSV_out (pc := 1) C htr hx (As := [.int (zI a)]) (rest := []) rfl (xX0_checkDays_x l D c1 c2 c3 a ⟨by omega, by omega⟩ hn) (va_cwS 1 C.2.2.2.2.1 gX0_pass_X0_checkDays rfl rfl rfl (by decide +kernel) ⟨Nat.le_of_ble_eq_true rfl, Nat.le_of_ble_eq_true rfl⟩) dX0_pass_1 rfl rfl (Nat.le_of_ble_eq_true rfl) (by decide) hno (by decide) (by decide)
set_option maxHeartbeats 4000000 in
set_option maxRecDepth 100000 in
theorem xX0_draw_x1 (l : Launch) (D : va_G) (h : Nat → Nat) (c1 c2 c3 : ClassId) (K Dm : Int → Int) (L : Int) (lo hi su db : Int → Int) (S dy li so sp : Int) (tu ah : Int → Int) (M : Int → Int → Int) (a b : Int) (hL0 : 0 ≤ L) (hL : L ≤ 12) (ha : zR a) (hb : zR b) (hn : ¬ (0 ≤ a ∧ a ≤ b ∧ b < L)) : cXI l yX0_draw wsX0_draw ({ frames := 7, cells := 1, slots := 6, locals := 112 }) D (tyS c1 c2 c3) [.ref (h 0), .int (zI a), .int (zI b)] (wG h c1 c2 K Dm L lo hi su db S dy li so sp tu ah M) "java/lang/IndexOutOfBoundsException" 1 6 := by
  refine cXI.of (cc := cX0_draw) (maxL := 4) (ret := (some .int)) (by decide) rfl (lv := [(0, .ref (h 0)), (1, .int (zI a)), (2, .int (zI b))]) [0, 1, 2] rfl (Nat.le_of_ble_eq_true rfl) ?_
  intro htr p e s m args below meth c A C hx hno
  have C : GC p s m args meth c cX0_draw 4 RX0 wsX0_draw D (tyS c1 c2 c3) A := C
  have hin : ∀ w ∈ wsX00, w ∈ wsX0_draw := fun _ h => List.mem_cons_of_mem _ (List.mem_append_left _ (List.mem_append_left _ (List.mem_append_right _ h)))
  obtain ⟨ha1, ha2⟩ := ha
  obtain ⟨hb1, hb2⟩ := hb
  refine j_aload_n (pc := 0) C dX0_draw_0 0 rfl ?_
  refine j_iload_n (pc := 1) C dX0_draw_1 1 rfl ?_
  refine j_iload_n (pc := 2) C dX0_draw_2 2 rfl ?_
  exact j_callXV_out (pc := 3) C htr hx (As := [.int (zI a), .int (zI b)]) (rest := []) (List.append_nil _).symm (xX0_checkLayers_x l D h c1 c2 c3 K Dm L lo hi su db S dy li so sp tu ah M a b (by omega) (by omega) ⟨by omega, by omega⟩ ⟨by omega, by omega⟩ hn) (cwV 2 C.2.2.2.2.1 gX0_draw_X0_checkLayers rfl rfl rfl (by decide +kernel) ⟨Nat.le_of_ble_eq_true rfl, Nat.le_of_ble_eq_true rfl⟩) 0 (ci := 0) rfl rfl rfl dX0_draw_3 rfl rfl (Nat.le_of_ble_eq_true rfl) (by decide) hno (by decide) (by decide)
set_option maxHeartbeats 4000000 in
set_option maxRecDepth 100000 in
theorem xX0_draw_x2 (l : Launch) (D : va_G) (h : Nat → Nat) (c1 c2 c3 : ClassId) (K Dm : Int → Int) (L : Int) (lo hi su db : Int → Int) (S dy li so sp : Int) (tu ah : Int → Int) (M : Int → Int → Int) (a b : Int) (h0 : 0 ≤ a) (h1 : a ≤ b) (h2 : b < L) (hL : L ≤ 12) (hS : S = 16) : cXI l yX0_draw wsX0_draw ({ frames := 6, cells := 1, slots := 6, locals := 90 }) D (tyS c1 c2 c3) [.ref (h 0), .int (zI a), .int (zI b)] (wG h c1 c2 K Dm L lo hi su db S dy li so sp tu ah M) "java/lang/IllegalStateException" 1 6 := by
  refine cXI.of (cc := cX0_draw) (maxL := 4) (ret := (some .int)) (by decide) rfl (lv := [(0, .ref (h 0)), (1, .int (zI a)), (2, .int (zI b))]) [0, 1, 2] rfl (Nat.le_of_ble_eq_true rfl) ?_
  intro htr p e s m args below meth c A C hx hno
  have C : GC p s m args meth c cX0_draw 4 RX0 wsX0_draw D (tyS c1 c2 c3) A := C
  have hin : ∀ w ∈ wsX00, w ∈ wsX0_draw := fun _ h => List.mem_cons_of_mem _ (List.mem_append_left _ (List.mem_append_left _ (List.mem_append_right _ h)))
  refine j_aload_n (pc := 0) C dX0_draw_0 0 rfl ?_
  refine j_iload_n (pc := 1) C dX0_draw_1 1 rfl ?_
  refine j_iload_n (pc := 2) C dX0_draw_2 2 rfl ?_
  refine j_callV (pc := 3) C (As := [.int (zI a), .int (zI b)]) (rest := []) (kX0_checkLayers l D h c1 c2 c3 K Dm L lo hi su db S dy li so sp tu ah M a b (by omega) (by omega) (by omega) (by omega)) (cwV 2 C.2.2.2.2.1 gX0_draw_X0_checkLayers rfl rfl rfl (by decide +kernel) ⟨Nat.le_of_ble_eq_true rfl, Nat.le_of_ble_eq_true rfl⟩) 0 (ci := 0) rfl rfl rfl dX0_draw_3 rfl rfl (Nat.le_of_ble_eq_true rfl) (by decide) ?_
  refine j_aload_n (pc := 6) C dX0_draw_6 0 rfl ?_
  refine j_get (pc := 7) C (ref := "GrainSilo") (T := TX0) (N := 15) hin 0 rfl rfl 7 (by decide) (C.w 3 rfl) rfl rfl dX0_draw_7 ?_
  refine j_bipush (pc := 10) C dX0_draw_10 (by decide +kernel) ?_
  refine j_icmp_lt (pc := 12) C 25 dX0_draw_12 (by decide) ⟨by omega, by omega⟩ ⟨by omega, by omega⟩ (fun c_12 => absurd c_12 (by omega)) (fun c_12 => ?_)
  exact j_throwS (pc := 15) C htr hx hno (names := ["java/lang/RuntimeException", "java/lang/Exception"]) (by decide +kernel) x_names (C.w 1 rfl) (C.w 2 rfl) (List.mem_of_getElem? (i := 0) rfl) (fun _ h => List.mem_cons_of_mem _ (List.mem_append_left _ (List.mem_append_right _ h))) x_bad64 x_tab x_ot64 dX0_draw_15 dX0_draw_18 dX0_draw_19 dX0_draw_21 dX0_draw_24 (by decide) (Nat.le_of_ble_eq_true rfl) (by decide) (by decide) (by decide) (by decide)
set_option maxHeartbeats 4000000 in
set_option maxRecDepth 100000 in
theorem xX0_throwAway_x1 (l : Launch) (D : va_G) (h : Nat → Nat) (c1 c2 c3 : ClassId) (K Dm : Int → Int) (L : Int) (lo hi su db : Int → Int) (S dy li so sp : Int) (tu ah : Int → Int) (M : Int → Int → Int) (a : Int) (hS0 : 0 ≤ S) (hS : S ≤ 16) (ha : zR a) (hn : ¬ (0 ≤ a ∧ a < S)) : cXI l yX0_throwAway wsX0_throwAway ({ frames := 7, cells := 1, slots := 6, locals := 111 }) D (tyS c1 c2 c3) [.ref (h 0), .int (zI a)] (wG h c1 c2 K Dm L lo hi su db S dy li so sp tu ah M) "java/lang/IndexOutOfBoundsException" 1 6 := by
  refine cXI.of (cc := cX0_throwAway) (maxL := 3) (ret := (some .int)) (by decide) rfl (lv := [(0, .ref (h 0)), (1, .int (zI a))]) [0, 1] rfl (Nat.le_of_ble_eq_true rfl) ?_
  intro htr p e s m args below meth c A C hx hno
  have C : GC p s m args meth c cX0_throwAway 3 RX0 wsX0_throwAway D (tyS c1 c2 c3) A := C
  have hin : ∀ w ∈ wsX00, w ∈ wsX0_throwAway := fun _ h => List.mem_cons_of_mem _ (List.mem_append_left _ (List.mem_append_right _ h))
  obtain ⟨ha1, ha2⟩ := ha
  refine j_aload_n (pc := 0) C dX0_throwAway_0 0 rfl ?_
  refine j_iload_n (pc := 1) C dX0_throwAway_1 1 rfl ?_
  exact j_callXV_out (pc := 2) C htr hx (As := [.int (zI a)]) (rest := []) (List.append_nil _).symm (xX0_checkSample_x l D h c1 c2 c3 K Dm L lo hi su db S dy li so sp tu ah M a (by omega) (by omega) ⟨by omega, by omega⟩ hn) (cwV 1 C.2.2.2.2.1 gX0_throwAway_X0_checkSample rfl rfl rfl (by decide +kernel) ⟨Nat.le_of_ble_eq_true rfl, Nat.le_of_ble_eq_true rfl⟩) 0 (ci := 0) rfl rfl rfl dX0_throwAway_2 rfl rfl (Nat.le_of_ble_eq_true rfl) (by decide) hno (by decide) (by decide)
set_option maxHeartbeats 4000000 in
set_option maxRecDepth 100000 in
theorem xX0_lowestOf_x1 (l : Launch) (D : va_G) (h : Nat → Nat) (c1 c2 c3 : ClassId) (K Dm : Int → Int) (L : Int) (lo hi su db : Int → Int) (S dy li so sp : Int) (tu ah : Int → Int) (M : Int → Int → Int) (a : Int) (hS0 : 0 ≤ S) (hS : S ≤ 16) (ha : zR a) (hn : ¬ (0 ≤ a ∧ a < S)) : cXI l yX0_lowestOf wsX0_lowestOf ({ frames := 7, cells := 1, slots := 6, locals := 111 }) D (tyS c1 c2 c3) [.ref (h 0), .int (zI a)] (wG h c1 c2 K Dm L lo hi su db S dy li so sp tu ah M) "java/lang/IndexOutOfBoundsException" 1 6 := by
  refine cXI.of (cc := cX0_lowestOf) (maxL := 2) (ret := (some .int)) (by decide) rfl (lv := [(0, .ref (h 0)), (1, .int (zI a))]) [0, 1] rfl (Nat.le_of_ble_eq_true rfl) ?_
  intro htr p e s m args below meth c A C hx hno
  have C : GC p s m args meth c cX0_lowestOf 2 RX0 wsX0_lowestOf D (tyS c1 c2 c3) A := C
  have hin : ∀ w ∈ wsX00, w ∈ wsX0_lowestOf := fun _ h => List.mem_cons_of_mem _ (List.mem_append_left _ (List.mem_append_right _ h))
  obtain ⟨ha1, ha2⟩ := ha
  refine j_aload_n (pc := 0) C dX0_lowestOf_0 0 rfl ?_
  refine j_iload_n (pc := 1) C dX0_lowestOf_1 1 rfl ?_
  exact j_callXV_out (pc := 2) C htr hx (As := [.int (zI a)]) (rest := []) (List.append_nil _).symm (xX0_checkSample_x l D h c1 c2 c3 K Dm L lo hi su db S dy li so sp tu ah M a (by omega) (by omega) ⟨by omega, by omega⟩ hn) (cwV 1 C.2.2.2.2.1 gX0_lowestOf_X0_checkSample rfl rfl rfl (by decide +kernel) ⟨Nat.le_of_ble_eq_true rfl, Nat.le_of_ble_eq_true rfl⟩) 0 (ci := 0) rfl rfl rfl dX0_lowestOf_2 rfl rfl (Nat.le_of_ble_eq_true rfl) (by decide) hno (by decide) (by decide)
set_option maxHeartbeats 4000000 in
set_option maxRecDepth 100000 in
theorem xX0_highestOf_x1 (l : Launch) (D : va_G) (h : Nat → Nat) (c1 c2 c3 : ClassId) (K Dm : Int → Int) (L : Int) (lo hi su db : Int → Int) (S dy li so sp : Int) (tu ah : Int → Int) (M : Int → Int → Int) (a : Int) (hS0 : 0 ≤ S) (hS : S ≤ 16) (ha : zR a) (hn : ¬ (0 ≤ a ∧ a < S)) : cXI l yX0_highestOf wsX0_highestOf ({ frames := 7, cells := 1, slots := 6, locals := 111 }) D (tyS c1 c2 c3) [.ref (h 0), .int (zI a)] (wG h c1 c2 K Dm L lo hi su db S dy li so sp tu ah M) "java/lang/IndexOutOfBoundsException" 1 6 := by
  refine cXI.of (cc := cX0_highestOf) (maxL := 2) (ret := (some .int)) (by decide) rfl (lv := [(0, .ref (h 0)), (1, .int (zI a))]) [0, 1] rfl (Nat.le_of_ble_eq_true rfl) ?_
  intro htr p e s m args below meth c A C hx hno
  have C : GC p s m args meth c cX0_highestOf 2 RX0 wsX0_highestOf D (tyS c1 c2 c3) A := C
  have hin : ∀ w ∈ wsX00, w ∈ wsX0_highestOf := fun _ h => List.mem_cons_of_mem _ (List.mem_append_left _ (List.mem_append_right _ h))
  obtain ⟨ha1, ha2⟩ := ha
  refine j_aload_n (pc := 0) C dX0_highestOf_0 0 rfl ?_
  refine j_iload_n (pc := 1) C dX0_highestOf_1 1 rfl ?_
  exact j_callXV_out (pc := 2) C htr hx (As := [.int (zI a)]) (rest := []) (List.append_nil _).symm (xX0_checkSample_x l D h c1 c2 c3 K Dm L lo hi su db S dy li so sp tu ah M a (by omega) (by omega) ⟨by omega, by omega⟩ hn) (cwV 1 C.2.2.2.2.1 gX0_highestOf_X0_checkSample rfl rfl rfl (by decide +kernel) ⟨Nat.le_of_ble_eq_true rfl, Nat.le_of_ble_eq_true rfl⟩) 0 (ci := 0) rfl rfl rfl dX0_highestOf_2 rfl rfl (Nat.le_of_ble_eq_true rfl) (by decide) hno (by decide) (by decide)
set_option maxHeartbeats 4000000 in
set_option maxRecDepth 100000 in
theorem xX0_sumOf_x1 (l : Launch) (D : va_G) (h : Nat → Nat) (c1 c2 c3 : ClassId) (K Dm : Int → Int) (L : Int) (lo hi su db : Int → Int) (S dy li so sp : Int) (tu ah : Int → Int) (M : Int → Int → Int) (a : Int) (hS0 : 0 ≤ S) (hS : S ≤ 16) (ha : zR a) (hn : ¬ (0 ≤ a ∧ a < S)) : cXI l yX0_sumOf wsX0_sumOf ({ frames := 7, cells := 1, slots := 6, locals := 111 }) D (tyS c1 c2 c3) [.ref (h 0), .int (zI a)] (wG h c1 c2 K Dm L lo hi su db S dy li so sp tu ah M) "java/lang/IndexOutOfBoundsException" 1 6 := by
  refine cXI.of (cc := cX0_sumOf) (maxL := 2) (ret := (some .int)) (by decide) rfl (lv := [(0, .ref (h 0)), (1, .int (zI a))]) [0, 1] rfl (Nat.le_of_ble_eq_true rfl) ?_
  intro htr p e s m args below meth c A C hx hno
  have C : GC p s m args meth c cX0_sumOf 2 RX0 wsX0_sumOf D (tyS c1 c2 c3) A := C
  have hin : ∀ w ∈ wsX00, w ∈ wsX0_sumOf := fun _ h => List.mem_cons_of_mem _ (List.mem_append_left _ (List.mem_append_right _ h))
  obtain ⟨ha1, ha2⟩ := ha
  refine j_aload_n (pc := 0) C dX0_sumOf_0 0 rfl ?_
  refine j_iload_n (pc := 1) C dX0_sumOf_1 1 rfl ?_
  exact j_callXV_out (pc := 2) C htr hx (As := [.int (zI a)]) (rest := []) (List.append_nil _).symm (xX0_checkSample_x l D h c1 c2 c3 K Dm L lo hi su db S dy li so sp tu ah M a (by omega) (by omega) ⟨by omega, by omega⟩ hn) (cwV 1 C.2.2.2.2.1 gX0_sumOf_X0_checkSample rfl rfl rfl (by decide +kernel) ⟨Nat.le_of_ble_eq_true rfl, Nat.le_of_ble_eq_true rfl⟩) 0 (ci := 0) rfl rfl rfl dX0_sumOf_2 rfl rfl (Nat.le_of_ble_eq_true rfl) (by decide) hno (by decide) (by decide)
set_option maxHeartbeats 4000000 in
set_option maxRecDepth 100000 in
theorem xX0_doubtOf_x1 (l : Launch) (D : va_G) (h : Nat → Nat) (c1 c2 c3 : ClassId) (K Dm : Int → Int) (L : Int) (lo hi su db : Int → Int) (S dy li so sp : Int) (tu ah : Int → Int) (M : Int → Int → Int) (a : Int) (hS0 : 0 ≤ S) (hS : S ≤ 16) (ha : zR a) (hn : ¬ (0 ≤ a ∧ a < S)) : cXI l yX0_doubtOf wsX0_doubtOf ({ frames := 7, cells := 1, slots := 6, locals := 111 }) D (tyS c1 c2 c3) [.ref (h 0), .int (zI a)] (wG h c1 c2 K Dm L lo hi su db S dy li so sp tu ah M) "java/lang/IndexOutOfBoundsException" 1 6 := by
  refine cXI.of (cc := cX0_doubtOf) (maxL := 2) (ret := (some .int)) (by decide) rfl (lv := [(0, .ref (h 0)), (1, .int (zI a))]) [0, 1] rfl (Nat.le_of_ble_eq_true rfl) ?_
  intro htr p e s m args below meth c A C hx hno
  have C : GC p s m args meth c cX0_doubtOf 2 RX0 wsX0_doubtOf D (tyS c1 c2 c3) A := C
  have hin : ∀ w ∈ wsX00, w ∈ wsX0_doubtOf := fun _ h => List.mem_cons_of_mem _ (List.mem_append_left _ (List.mem_append_right _ h))
  obtain ⟨ha1, ha2⟩ := ha
  refine j_aload_n (pc := 0) C dX0_doubtOf_0 0 rfl ?_
  refine j_iload_n (pc := 1) C dX0_doubtOf_1 1 rfl ?_
  exact j_callXV_out (pc := 2) C htr hx (As := [.int (zI a)]) (rest := []) (List.append_nil _).symm (xX0_checkSample_x l D h c1 c2 c3 K Dm L lo hi su db S dy li so sp tu ah M a (by omega) (by omega) ⟨by omega, by omega⟩ hn) (cwV 1 C.2.2.2.2.1 gX0_doubtOf_X0_checkSample rfl rfl rfl (by decide +kernel) ⟨Nat.le_of_ble_eq_true rfl, Nat.le_of_ble_eq_true rfl⟩) 0 (ci := 0) rfl rfl rfl dX0_doubtOf_2 rfl rfl (Nat.le_of_ble_eq_true rfl) (by decide) hno (by decide) (by decide)
set_option maxHeartbeats 4000000 in
set_option maxRecDepth 100000 in
theorem xX0_kindOf_x1 (l : Launch) (D : va_G) (h : Nat → Nat) (c1 c2 c3 : ClassId) (K Dm : Int → Int) (L : Int) (lo hi su db : Int → Int) (S dy li so sp : Int) (tu ah : Int → Int) (M : Int → Int → Int) (a : Int) (hL0 : 0 ≤ L) (hL : L ≤ 12) (ha : zR a) (hn : ¬ (0 ≤ a ∧ a < L)) : cXI l yX0_kindOf wsX0_kindOf ({ frames := 7, cells := 1, slots := 6, locals := 111 }) D (tyS c1 c2 c3) [.ref (h 0), .int (zI a)] (wG h c1 c2 K Dm L lo hi su db S dy li so sp tu ah M) "java/lang/IndexOutOfBoundsException" 1 6 := by
  refine cXI.of (cc := cX0_kindOf) (maxL := 2) (ret := (some .int)) (by decide) rfl (lv := [(0, .ref (h 0)), (1, .int (zI a))]) [0, 1] rfl (Nat.le_of_ble_eq_true rfl) ?_
  intro htr p e s m args below meth c A C hx hno
  have C : GC p s m args meth c cX0_kindOf 2 RX0 wsX0_kindOf D (tyS c1 c2 c3) A := C
  have hin : ∀ w ∈ wsX00, w ∈ wsX0_kindOf := fun _ h => List.mem_cons_of_mem _ (List.mem_append_left _ (List.mem_append_right _ h))
  obtain ⟨ha1, ha2⟩ := ha
  refine j_aload_n (pc := 0) C dX0_kindOf_0 0 rfl ?_
  refine j_iload_n (pc := 1) C dX0_kindOf_1 1 rfl ?_
  exact j_callXV_out (pc := 2) C htr hx (As := [.int (zI a)]) (rest := []) (List.append_nil _).symm (xX0_checkLayer_x l D h c1 c2 c3 K Dm L lo hi su db S dy li so sp tu ah M a (by omega) (by omega) ⟨by omega, by omega⟩ hn) (cwV 1 C.2.2.2.2.1 gX0_kindOf_X0_checkLayer rfl rfl rfl (by decide +kernel) ⟨Nat.le_of_ble_eq_true rfl, Nat.le_of_ble_eq_true rfl⟩) 0 (ci := 0) rfl rfl rfl dX0_kindOf_2 rfl rfl (Nat.le_of_ble_eq_true rfl) (by decide) hno (by decide) (by decide)
set_option maxHeartbeats 4000000 in
set_option maxRecDepth 100000 in
theorem xX0_dampnessOf_x1 (l : Launch) (D : va_G) (h : Nat → Nat) (c1 c2 c3 : ClassId) (K Dm : Int → Int) (L : Int) (lo hi su db : Int → Int) (S dy li so sp : Int) (tu ah : Int → Int) (M : Int → Int → Int) (a : Int) (hL0 : 0 ≤ L) (hL : L ≤ 12) (ha : zR a) (hn : ¬ (0 ≤ a ∧ a < L)) : cXI l yX0_dampnessOf wsX0_dampnessOf ({ frames := 7, cells := 1, slots := 6, locals := 111 }) D (tyS c1 c2 c3) [.ref (h 0), .int (zI a)] (wG h c1 c2 K Dm L lo hi su db S dy li so sp tu ah M) "java/lang/IndexOutOfBoundsException" 1 6 := by
  refine cXI.of (cc := cX0_dampnessOf) (maxL := 2) (ret := (some .int)) (by decide) rfl (lv := [(0, .ref (h 0)), (1, .int (zI a))]) [0, 1] rfl (Nat.le_of_ble_eq_true rfl) ?_
  intro htr p e s m args below meth c A C hx hno
  have C : GC p s m args meth c cX0_dampnessOf 2 RX0 wsX0_dampnessOf D (tyS c1 c2 c3) A := C
  have hin : ∀ w ∈ wsX00, w ∈ wsX0_dampnessOf := fun _ h => List.mem_cons_of_mem _ (List.mem_append_left _ (List.mem_append_right _ h))
  obtain ⟨ha1, ha2⟩ := ha
  refine j_aload_n (pc := 0) C dX0_dampnessOf_0 0 rfl ?_
  refine j_iload_n (pc := 1) C dX0_dampnessOf_1 1 rfl ?_
  exact j_callXV_out (pc := 2) C htr hx (As := [.int (zI a)]) (rest := []) (List.append_nil _).symm (xX0_checkLayer_x l D h c1 c2 c3 K Dm L lo hi su db S dy li so sp tu ah M a (by omega) (by omega) ⟨by omega, by omega⟩ hn) (cwV 1 C.2.2.2.2.1 gX0_dampnessOf_X0_checkLayer rfl rfl rfl (by decide +kernel) ⟨Nat.le_of_ble_eq_true rfl, Nat.le_of_ble_eq_true rfl⟩) 0 (ci := 0) rfl rfl rfl dX0_dampnessOf_2 rfl rfl (Nat.le_of_ble_eq_true rfl) (by decide) hno (by decide) (by decide)
set_option maxHeartbeats 4000000 in
set_option maxRecDepth 100000 in
theorem xX0_leastOf_x1 (l : Launch) (D : va_G) (h : Nat → Nat) (c1 c2 c3 : ClassId) (K Dm : Int → Int) (L : Int) (lo hi su db : Int → Int) (S dy li so sp : Int) (tu ah : Int → Int) (M : Int → Int → Int) (a : Int) (hL0 : 0 ≤ L) (hL : L ≤ 12) (ha : zR a) (hn : ¬ (0 ≤ a ∧ a < L)) : cXI l yX0_leastOf wsX0_leastOf ({ frames := 7, cells := 1, slots := 6, locals := 111 }) D (tyS c1 c2 c3) [.ref (h 0), .int (zI a)] (wG h c1 c2 K Dm L lo hi su db S dy li so sp tu ah M) "java/lang/IndexOutOfBoundsException" 1 6 := by
  refine cXI.of (cc := cX0_leastOf) (maxL := 2) (ret := (some .int)) (by decide) rfl (lv := [(0, .ref (h 0)), (1, .int (zI a))]) [0, 1] rfl (Nat.le_of_ble_eq_true rfl) ?_
  intro htr p e s m args below meth c A C hx hno
  have C : GC p s m args meth c cX0_leastOf 2 RX0 wsX0_leastOf D (tyS c1 c2 c3) A := C
  have hin : ∀ w ∈ wsX00, w ∈ wsX0_leastOf := fun _ h => List.mem_cons_of_mem _ (List.mem_append_left _ (List.mem_append_right _ h))
  obtain ⟨ha1, ha2⟩ := ha
  refine j_aload_n (pc := 0) C dX0_leastOf_0 0 rfl ?_
  refine j_iload_n (pc := 1) C dX0_leastOf_1 1 rfl ?_
  exact j_callXV_out (pc := 2) C htr hx (As := [.int (zI a)]) (rest := []) (List.append_nil _).symm (xX0_checkLayer_x l D h c1 c2 c3 K Dm L lo hi su db S dy li so sp tu ah M a (by omega) (by omega) ⟨by omega, by omega⟩ hn) (cwV 1 C.2.2.2.2.1 gX0_leastOf_X0_checkLayer rfl rfl rfl (by decide +kernel) ⟨Nat.le_of_ble_eq_true rfl, Nat.le_of_ble_eq_true rfl⟩) 0 (ci := 0) rfl rfl rfl dX0_leastOf_2 rfl rfl (Nat.le_of_ble_eq_true rfl) (by decide) hno (by decide) (by decide)
set_option maxHeartbeats 4000000 in
set_option maxRecDepth 100000 in
theorem xX0_greatestOf_x1 (l : Launch) (D : va_G) (h : Nat → Nat) (c1 c2 c3 : ClassId) (K Dm : Int → Int) (L : Int) (lo hi su db : Int → Int) (S dy li so sp : Int) (tu ah : Int → Int) (M : Int → Int → Int) (a : Int) (hL0 : 0 ≤ L) (hL : L ≤ 12) (ha : zR a) (hn : ¬ (0 ≤ a ∧ a < L)) : cXI l yX0_greatestOf wsX0_greatestOf ({ frames := 7, cells := 1, slots := 6, locals := 111 }) D (tyS c1 c2 c3) [.ref (h 0), .int (zI a)] (wG h c1 c2 K Dm L lo hi su db S dy li so sp tu ah M) "java/lang/IndexOutOfBoundsException" 1 6 := by
  refine cXI.of (cc := cX0_greatestOf) (maxL := 2) (ret := (some .int)) (by decide) rfl (lv := [(0, .ref (h 0)), (1, .int (zI a))]) [0, 1] rfl (Nat.le_of_ble_eq_true rfl) ?_
  intro htr p e s m args below meth c A C hx hno
  have C : GC p s m args meth c cX0_greatestOf 2 RX0 wsX0_greatestOf D (tyS c1 c2 c3) A := C
  have hin : ∀ w ∈ wsX00, w ∈ wsX0_greatestOf := fun _ h => List.mem_cons_of_mem _ (List.mem_append_left _ (List.mem_append_right _ h))
  obtain ⟨ha1, ha2⟩ := ha
  refine j_aload_n (pc := 0) C dX0_greatestOf_0 0 rfl ?_
  refine j_iload_n (pc := 1) C dX0_greatestOf_1 1 rfl ?_
  exact j_callXV_out (pc := 2) C htr hx (As := [.int (zI a)]) (rest := []) (List.append_nil _).symm (xX0_checkLayer_x l D h c1 c2 c3 K Dm L lo hi su db S dy li so sp tu ah M a (by omega) (by omega) ⟨by omega, by omega⟩ hn) (cwV 1 C.2.2.2.2.1 gX0_greatestOf_X0_checkLayer rfl rfl rfl (by decide +kernel) ⟨Nat.le_of_ble_eq_true rfl, Nat.le_of_ble_eq_true rfl⟩) 0 (ci := 0) rfl rfl rfl dX0_greatestOf_2 rfl rfl (Nat.le_of_ble_eq_true rfl) (by decide) hno (by decide) (by decide)
set_option maxHeartbeats 4000000 in
set_option maxRecDepth 100000 in
theorem xX0_isKnown_x1 (l : Launch) (D : va_G) (h : Nat → Nat) (c1 c2 c3 : ClassId) (K Dm : Int → Int) (L : Int) (lo hi su db : Int → Int) (S dy li so sp : Int) (tu ah : Int → Int) (M : Int → Int → Int) (a : Int) (hL0 : 0 ≤ L) (hL : L ≤ 12) (ha : zR a) (hn : ¬ (0 ≤ a ∧ a < L)) : cXI l yX0_isKnown wsX0_isKnown ({ frames := 7, cells := 1, slots := 6, locals := 111 }) D (tyS c1 c2 c3) [.ref (h 0), .int (zI a)] (wG h c1 c2 K Dm L lo hi su db S dy li so sp tu ah M) "java/lang/IndexOutOfBoundsException" 1 6 := by
  refine cXI.of (cc := cX0_isKnown) (maxL := 2) (ret := (some .boolean)) (by decide) rfl (lv := [(0, .ref (h 0)), (1, .int (zI a))]) [0, 1] rfl (Nat.le_of_ble_eq_true rfl) ?_
  intro htr p e s m args below meth c A C hx hno
  have C : GC p s m args meth c cX0_isKnown 2 RX0 wsX0_isKnown D (tyS c1 c2 c3) A := C
  have hin : ∀ w ∈ wsX00, w ∈ wsX0_isKnown := fun _ h => List.mem_cons_of_mem _ (List.mem_append_left _ (List.mem_append_right _ h))
  obtain ⟨ha1, ha2⟩ := ha
  refine j_aload_n (pc := 0) C dX0_isKnown_0 0 rfl ?_
  refine j_iload_n (pc := 1) C dX0_isKnown_1 1 rfl ?_
  exact j_callXV_out (pc := 2) C htr hx (As := [.int (zI a)]) (rest := []) (List.append_nil _).symm (xX0_checkLayer_x l D h c1 c2 c3 K Dm L lo hi su db S dy li so sp tu ah M a (by omega) (by omega) ⟨by omega, by omega⟩ hn) (cwV 1 C.2.2.2.2.1 gX0_isKnown_X0_checkLayer rfl rfl rfl (by decide +kernel) ⟨Nat.le_of_ble_eq_true rfl, Nat.le_of_ble_eq_true rfl⟩) 0 (ci := 0) rfl rfl rfl dX0_isKnown_2 rfl rfl (Nat.le_of_ble_eq_true rfl) (by decide) hno (by decide) (by decide)
set_option maxHeartbeats 4000000 in
set_option maxRecDepth 100000 in
theorem xX0_layersAheadOf_x1 (l : Launch) (D : va_G) (h : Nat → Nat) (c1 c2 c3 : ClassId) (K Dm : Int → Int) (L : Int) (lo hi su db : Int → Int) (S dy li so sp : Int) (tu ah : Int → Int) (M : Int → Int → Int) (a : Int) (ha : zR a) (hn : ¬ (0 ≤ a ∧ a ≤ 4)) : cXI l yX0_layersAheadOf wsX0_layersAheadOf ({ frames := 6, cells := 1, slots := 6, locals := 90 }) D (tyS c1 c2 c3) [.ref (h 0), .int (zI a)] (wG h c1 c2 K Dm L lo hi su db S dy li so sp tu ah M) "java/lang/IndexOutOfBoundsException" 1 6 := by
  refine cXI.of (cc := cX0_layersAheadOf) (maxL := 3) (ret := (some .int)) (by decide) rfl (lv := [(0, .ref (h 0)), (1, .int (zI a))]) [0, 1] rfl (Nat.le_of_ble_eq_true rfl) ?_
  intro htr p e s m args below meth c A C hx hno
  have C : GC p s m args meth c cX0_layersAheadOf 3 RX0 wsX0_layersAheadOf D (tyS c1 c2 c3) A := C
  have hin : ∀ w ∈ wsX00, w ∈ wsX0_layersAheadOf := fun _ h => List.mem_cons_of_mem _ (List.mem_append_left _ (List.mem_append_right _ h))
  obtain ⟨ha1, ha2⟩ := ha
  refine j_iload_n (pc := 0) C dX0_layersAheadOf_0 1 rfl ?_
  refine j_callSI (pc := 1) C (As := [.int (zI a)]) (rest := []) (kX0_isKind l D c1 c2 c3 a ⟨by omega, by omega⟩) (va_cwS 1 C.2.2.2.2.1 gX0_layersAheadOf_X0_isKind rfl rfl rfl (by decide +kernel) ⟨Nat.le_of_ble_eq_true rfl, Nat.le_of_ble_eq_true rfl⟩) dX0_layersAheadOf_1 rfl rfl (Nat.le_of_ble_eq_true rfl) (by decide) ?_
  refine j_if_ne (pc := 4) C 17 dX0_layersAheadOf_4 (by decide) ⟨by omega, by omega⟩ (fun c_4 => absurd c_4 (by omega)) (fun c_4 => ?_)
  exact j_throwS (pc := 7) C htr hx hno (names := ["java/lang/RuntimeException", "java/lang/Exception"]) (by decide +kernel) x_names (C.w 1 rfl) (C.w 2 rfl) (List.mem_of_getElem? (i := 1) rfl) (fun _ h => List.mem_cons_of_mem _ (List.mem_append_right _ h)) x_bad138 x_tab x_ot138 dX0_layersAheadOf_7 dX0_layersAheadOf_10 dX0_layersAheadOf_11 dX0_layersAheadOf_13 dX0_layersAheadOf_16 (by decide) (Nat.le_of_ble_eq_true rfl) (by decide) (by decide) (by decide) (by decide)
set_option maxHeartbeats 4000000 in
set_option maxRecDepth 100000 in
theorem xX0_worstLayer_x1 (l : Launch) (D : va_G) (h : Nat → Nat) (c1 c2 c3 : ClassId) (K Dm : Int → Int) (L : Int) (lo hi su db : Int → Int) (S dy li so sp : Int) (tu ah : Int → Int) (M : Int → Int → Int) (hL : L = 0) : cXI l yX0_worstLayer wsX0_worstLayer ({ frames := 7, cells := 1, slots := 6, locals := 110 }) D (tyS c1 c2 c3) [.ref (h 0)] (wG h c1 c2 K Dm L lo hi su db S dy li so sp tu ah M) "java/lang/IllegalStateException" 1 6 := by
  refine cXI.of (cc := cX0_worstLayer) (maxL := 3) (ret := (some .int)) (by decide) rfl (lv := [(0, .ref (h 0))]) [0] rfl (Nat.le_of_ble_eq_true rfl) ?_
  intro htr p e s m args below meth c A C hx hno
  have C : GC p s m args meth c cX0_worstLayer 3 RX0 wsX0_worstLayer D (tyS c1 c2 c3) A := C
  have hin : ∀ w ∈ wsX00, w ∈ wsX0_worstLayer := fun _ h => List.mem_cons_of_mem _ (List.mem_append_left _ (List.mem_append_right _ h))
  refine j_aload_n (pc := 0) C dX0_worstLayer_0 0 rfl ?_
  exact j_callXV_out (pc := 1) C htr hx (As := []) (rest := []) (List.append_nil _).symm (xX0_checkNotEmpty_x l D h c1 c2 c3 K Dm L lo hi su db S dy li so sp tu ah M  hL) (cwV 0 C.2.2.2.2.1 gX0_worstLayer_X0_checkNotEmpty rfl rfl rfl (by decide +kernel) ⟨Nat.le_of_ble_eq_true rfl, Nat.le_of_ble_eq_true rfl⟩) 0 (ci := 0) rfl rfl rfl dX0_worstLayer_1 rfl rfl (Nat.le_of_ble_eq_true rfl) (by decide) hno (by decide) (by decide)
set_option maxHeartbeats 4000000 in
set_option maxRecDepth 100000 in
theorem xX0_bestToLookAt_x1 (l : Launch) (D : va_G) (h : Nat → Nat) (c1 c2 c3 : ClassId) (K Dm : Int → Int) (L : Int) (lo hi su db : Int → Int) (S dy li so sp : Int) (tu ah : Int → Int) (M : Int → Int → Int) (hL : L = 0) : cXI l yX0_bestToLookAt wsX0_bestToLookAt ({ frames := 7, cells := 1, slots := 6, locals := 110 }) D (tyS c1 c2 c3) [.ref (h 0)] (wG h c1 c2 K Dm L lo hi su db S dy li so sp tu ah M) "java/lang/IllegalStateException" 1 6 := by
  refine cXI.of (cc := cX0_bestToLookAt) (maxL := 5) (ret := (some .int)) (by decide) rfl (lv := [(0, .ref (h 0))]) [0] rfl (Nat.le_of_ble_eq_true rfl) ?_
  intro htr p e s m args below meth c A C hx hno
  have C : GC p s m args meth c cX0_bestToLookAt 5 RX0 wsX0_bestToLookAt D (tyS c1 c2 c3) A := C
  have hin : ∀ w ∈ wsX00, w ∈ wsX0_bestToLookAt := fun _ h => List.mem_cons_of_mem _ (List.mem_append_left _ (List.mem_append_right _ h))
  refine j_aload_n (pc := 0) C dX0_bestToLookAt_0 0 rfl ?_
  exact j_callXV_out (pc := 1) C htr hx (As := []) (rest := []) (List.append_nil _).symm (xX0_checkNotEmpty_x l D h c1 c2 c3 K Dm L lo hi su db S dy li so sp tu ah M  hL) (cwV 0 C.2.2.2.2.1 gX0_bestToLookAt_X0_checkNotEmpty rfl rfl rfl (by decide +kernel) ⟨Nat.le_of_ble_eq_true rfl, Nat.le_of_ble_eq_true rfl⟩) 0 (ci := 0) rfl rfl rfl dX0_bestToLookAt_1 rfl rfl (Nat.le_of_ble_eq_true rfl) (by decide) hno (by decide) (by decide)
set_option maxHeartbeats 4000000 in
set_option maxRecDepth 100000 in
theorem xX0_leastSum_x1 (l : Launch) (D : va_G) (h : Nat → Nat) (c1 c2 c3 : ClassId) (K Dm : Int → Int) (L : Int) (lo hi su db : Int → Int) (S dy li so sp : Int) (tu ah : Int → Int) (M : Int → Int → Int) (a b : Int) (hL0 : 0 ≤ L) (hL : L ≤ 12) (ha : zR a) (hb : zR b) (hn : ¬ (0 ≤ a ∧ a ≤ b ∧ b < L)) : cXI l yX0_leastSum wsX0_leastSum ({ frames := 7, cells := 1, slots := 6, locals := 112 }) D (tyS c1 c2 c3) [.ref (h 0), .int (zI a), .int (zI b)] (wG h c1 c2 K Dm L lo hi su db S dy li so sp tu ah M) "java/lang/IndexOutOfBoundsException" 1 6 := by
  refine cXI.of (cc := cX0_leastSum) (maxL := 3) (ret := (some .int)) (by decide) rfl (lv := [(0, .ref (h 0)), (1, .int (zI a)), (2, .int (zI b))]) [0, 1, 2] rfl (Nat.le_of_ble_eq_true rfl) ?_
  intro htr p e s m args below meth c A C hx hno
  have C : GC p s m args meth c cX0_leastSum 3 RX0 wsX0_leastSum D (tyS c1 c2 c3) A := C
  have hin : ∀ w ∈ wsX00, w ∈ wsX0_leastSum := fun _ h => List.mem_cons_of_mem _ (List.mem_append_left _ (List.mem_append_right _ h))
  obtain ⟨ha1, ha2⟩ := ha
  obtain ⟨hb1, hb2⟩ := hb
  refine j_aload_n (pc := 0) C dX0_leastSum_0 0 rfl ?_
  refine j_iload_n (pc := 1) C dX0_leastSum_1 1 rfl ?_
  refine j_iload_n (pc := 2) C dX0_leastSum_2 2 rfl ?_
  exact j_callXV_out (pc := 3) C htr hx (As := [.int (zI a), .int (zI b)]) (rest := []) (List.append_nil _).symm (xX0_checkLayers_x l D h c1 c2 c3 K Dm L lo hi su db S dy li so sp tu ah M a b (by omega) (by omega) ⟨by omega, by omega⟩ ⟨by omega, by omega⟩ hn) (cwV 2 C.2.2.2.2.1 gX0_leastSum_X0_checkLayers rfl rfl rfl (by decide +kernel) ⟨Nat.le_of_ble_eq_true rfl, Nat.le_of_ble_eq_true rfl⟩) 0 (ci := 0) rfl rfl rfl dX0_leastSum_3 rfl rfl (Nat.le_of_ble_eq_true rfl) (by decide) hno (by decide) (by decide)
set_option maxHeartbeats 4000000 in
set_option maxRecDepth 100000 in
theorem xX0_greatestSum_x1 (l : Launch) (D : va_G) (h : Nat → Nat) (c1 c2 c3 : ClassId) (K Dm : Int → Int) (L : Int) (lo hi su db : Int → Int) (S dy li so sp : Int) (tu ah : Int → Int) (M : Int → Int → Int) (a b : Int) (hL0 : 0 ≤ L) (hL : L ≤ 12) (ha : zR a) (hb : zR b) (hn : ¬ (0 ≤ a ∧ a ≤ b ∧ b < L)) : cXI l yX0_greatestSum wsX0_greatestSum ({ frames := 7, cells := 1, slots := 6, locals := 112 }) D (tyS c1 c2 c3) [.ref (h 0), .int (zI a), .int (zI b)] (wG h c1 c2 K Dm L lo hi su db S dy li so sp tu ah M) "java/lang/IndexOutOfBoundsException" 1 6 := by
  refine cXI.of (cc := cX0_greatestSum) (maxL := 3) (ret := (some .int)) (by decide) rfl (lv := [(0, .ref (h 0)), (1, .int (zI a)), (2, .int (zI b))]) [0, 1, 2] rfl (Nat.le_of_ble_eq_true rfl) ?_
  intro htr p e s m args below meth c A C hx hno
  have C : GC p s m args meth c cX0_greatestSum 3 RX0 wsX0_greatestSum D (tyS c1 c2 c3) A := C
  have hin : ∀ w ∈ wsX00, w ∈ wsX0_greatestSum := fun _ h => List.mem_cons_of_mem _ (List.mem_append_left _ (List.mem_append_right _ h))
  obtain ⟨ha1, ha2⟩ := ha
  obtain ⟨hb1, hb2⟩ := hb
  refine j_aload_n (pc := 0) C dX0_greatestSum_0 0 rfl ?_
  refine j_iload_n (pc := 1) C dX0_greatestSum_1 1 rfl ?_
  refine j_iload_n (pc := 2) C dX0_greatestSum_2 2 rfl ?_
  exact j_callXV_out (pc := 3) C htr hx (As := [.int (zI a), .int (zI b)]) (rest := []) (List.append_nil _).symm (xX0_checkLayers_x l D h c1 c2 c3 K Dm L lo hi su db S dy li so sp tu ah M a b (by omega) (by omega) ⟨by omega, by omega⟩ ⟨by omega, by omega⟩ hn) (cwV 2 C.2.2.2.2.1 gX0_greatestSum_X0_checkLayers rfl rfl rfl (by decide +kernel) ⟨Nat.le_of_ble_eq_true rfl, Nat.le_of_ble_eq_true rfl⟩) 0 (ci := 0) rfl rfl rfl dX0_greatestSum_3 rfl rfl (Nat.le_of_ble_eq_true rfl) (by decide) hno (by decide) (by decide)
set_option maxHeartbeats 4000000 in
set_option maxRecDepth 100000 in
theorem xX0_doubtBehind_x1 (l : Launch) (D : va_G) (h : Nat → Nat) (c1 c2 c3 : ClassId) (K Dm : Int → Int) (L : Int) (lo hi su db : Int → Int) (S dy li so sp : Int) (tu ah : Int → Int) (M : Int → Int → Int) (a b : Int) (hL0 : 0 ≤ L) (hL : L ≤ 12) (ha : zR a) (hb : zR b) (hn : ¬ (0 ≤ a ∧ a ≤ b ∧ b < L)) : cXI l yX0_doubtBehind wsX0_doubtBehind ({ frames := 7, cells := 1, slots := 6, locals := 112 }) D (tyS c1 c2 c3) [.ref (h 0), .int (zI a), .int (zI b)] (wG h c1 c2 K Dm L lo hi su db S dy li so sp tu ah M) "java/lang/IndexOutOfBoundsException" 1 6 := by
  refine cXI.of (cc := cX0_doubtBehind) (maxL := 3) (ret := (some .int)) (by decide) rfl (lv := [(0, .ref (h 0)), (1, .int (zI a)), (2, .int (zI b))]) [0, 1, 2] rfl (Nat.le_of_ble_eq_true rfl) ?_
  intro htr p e s m args below meth c A C hx hno
  have C : GC p s m args meth c cX0_doubtBehind 3 RX0 wsX0_doubtBehind D (tyS c1 c2 c3) A := C
  have hin : ∀ w ∈ wsX00, w ∈ wsX0_doubtBehind := fun _ h => List.mem_cons_of_mem _ (List.mem_append_left _ (List.mem_append_right _ h))
  obtain ⟨ha1, ha2⟩ := ha
  obtain ⟨hb1, hb2⟩ := hb
  refine j_aload_n (pc := 0) C dX0_doubtBehind_0 0 rfl ?_
  refine j_iload_n (pc := 1) C dX0_doubtBehind_1 1 rfl ?_
  refine j_iload_n (pc := 2) C dX0_doubtBehind_2 2 rfl ?_
  exact j_callXV_out (pc := 3) C htr hx (As := [.int (zI a), .int (zI b)]) (rest := []) (List.append_nil _).symm (xX0_checkLayers_x l D h c1 c2 c3 K Dm L lo hi su db S dy li so sp tu ah M a b (by omega) (by omega) ⟨by omega, by omega⟩ ⟨by omega, by omega⟩ hn) (cwV 2 C.2.2.2.2.1 gX0_doubtBehind_X0_checkLayers rfl rfl rfl (by decide +kernel) ⟨Nat.le_of_ble_eq_true rfl, Nat.le_of_ble_eq_true rfl⟩) 0 (ci := 0) rfl rfl rfl dX0_doubtBehind_3 rfl rfl (Nat.le_of_ble_eq_true rfl) (by decide) hno (by decide) (by decide)
set_option maxHeartbeats 4000000 in
set_option maxRecDepth 100000 in
theorem xX0_dampnessIn_x1 (l : Launch) (D : va_G) (h : Nat → Nat) (c1 c2 c3 : ClassId) (K Dm : Int → Int) (L : Int) (lo hi su db : Int → Int) (S dy li so sp : Int) (tu ah : Int → Int) (M : Int → Int → Int) (a b : Int) (hL0 : 0 ≤ L) (hL : L ≤ 12) (ha : zR a) (hn : ¬ (0 ≤ a ∧ a < L)) : cXI l yX0_dampnessIn wsX0_dampnessIn ({ frames := 7, cells := 1, slots := 6, locals := 111 }) D (tyS c1 c2 c3) [.ref (h 0), .int (zI a), .int (zI b)] (wG h c1 c2 K Dm L lo hi su db S dy li so sp tu ah M) "java/lang/IndexOutOfBoundsException" 1 6 := by
  refine cXI.of (cc := cX0_dampnessIn) (maxL := 3) (ret := (some .int)) (by decide) rfl (lv := [(0, .ref (h 0)), (1, .int (zI a)), (2, .int (zI b))]) [0, 1, 2] rfl (Nat.le_of_ble_eq_true rfl) ?_
  intro htr p e s m args below meth c A C hx hno
  have C : GC p s m args meth c cX0_dampnessIn 3 RX0 wsX0_dampnessIn D (tyS c1 c2 c3) A := C
  have hin : ∀ w ∈ wsX00, w ∈ wsX0_dampnessIn := fun _ h => List.mem_cons_of_mem _ (List.mem_append_left _ (List.mem_append_left _ (List.mem_append_right _ h)))
  obtain ⟨ha1, ha2⟩ := ha
  refine j_aload_n (pc := 0) C dX0_dampnessIn_0 0 rfl ?_
  refine j_iload_n (pc := 1) C dX0_dampnessIn_1 1 rfl ?_
  exact j_callXV_out (pc := 2) C htr hx (As := [.int (zI a)]) (rest := []) (List.append_nil _).symm (xX0_checkLayer_x l D h c1 c2 c3 K Dm L lo hi su db S dy li so sp tu ah M a (by omega) (by omega) ⟨by omega, by omega⟩ hn) (cwV 1 C.2.2.2.2.1 gX0_dampnessIn_X0_checkLayer rfl rfl rfl (by decide +kernel) ⟨Nat.le_of_ble_eq_true rfl, Nat.le_of_ble_eq_true rfl⟩) 0 (ci := 0) rfl rfl rfl dX0_dampnessIn_2 rfl rfl (Nat.le_of_ble_eq_true rfl) (by decide) hno (by decide) (by decide)
set_option maxHeartbeats 4000000 in
set_option maxRecDepth 100000 in
theorem xX0_dampnessIn_x2 (l : Launch) (D : va_G) (h : Nat → Nat) (c1 c2 c3 : ClassId) (K Dm : Int → Int) (L : Int) (lo hi su db : Int → Int) (S dy li so sp : Int) (tu ah : Int → Int) (M : Int → Int → Int) (a b : Int) (h0 : 0 ≤ a) (h1 : a < L) (h2 : L ≤ 12) (hb : zR b) (hn : ¬ (1 ≤ b ∧ b ≤ 50)) : cXI l yX0_dampnessIn wsX0_dampnessIn ({ frames := 7, cells := 1, slots := 6, locals := 110 }) D (tyS c1 c2 c3) [.ref (h 0), .int (zI a), .int (zI b)] (wG h c1 c2 K Dm L lo hi su db S dy li so sp tu ah M) "java/lang/IllegalArgumentException" 1 6 := by
  refine cXI.of (cc := cX0_dampnessIn) (maxL := 3) (ret := (some .int)) (by decide) rfl (lv := [(0, .ref (h 0)), (1, .int (zI a)), (2, .int (zI b))]) [0, 1, 2] rfl (Nat.le_of_ble_eq_true rfl) ?_
  intro htr p e s m args below meth c A C hx hno
  have C : GC p s m args meth c cX0_dampnessIn 3 RX0 wsX0_dampnessIn D (tyS c1 c2 c3) A := C
  have hin : ∀ w ∈ wsX00, w ∈ wsX0_dampnessIn := fun _ h => List.mem_cons_of_mem _ (List.mem_append_left _ (List.mem_append_left _ (List.mem_append_right _ h)))
  obtain ⟨hb1, hb2⟩ := hb
  refine j_aload_n (pc := 0) C dX0_dampnessIn_0 0 rfl ?_
  refine j_iload_n (pc := 1) C dX0_dampnessIn_1 1 rfl ?_
  refine j_callV (pc := 2) C (As := [.int (zI a)]) (rest := []) (kX0_checkLayer l D h c1 c2 c3 K Dm L lo hi su db S dy li so sp tu ah M a (by omega) (by omega) (by omega)) (cwV 1 C.2.2.2.2.1 gX0_dampnessIn_X0_checkLayer rfl rfl rfl (by decide +kernel) ⟨Nat.le_of_ble_eq_true rfl, Nat.le_of_ble_eq_true rfl⟩) 0 (ci := 0) rfl rfl rfl dX0_dampnessIn_2 rfl rfl (Nat.le_of_ble_eq_true rfl) (by decide) ?_
  refine j_iload_n (pc := 5) C dX0_dampnessIn_5 2 rfl ?_
  exact j_callXSV_out (pc := 6) C htr hx (As := [.int (zI b)]) (rest := []) rfl (xX0_checkDays_x l D c1 c2 c3 b ⟨by omega, by omega⟩ hn) (va_cwS 1 C.2.2.2.2.1 gX0_dampnessIn_X0_checkDays rfl rfl rfl (by decide +kernel) ⟨Nat.le_of_ble_eq_true rfl, Nat.le_of_ble_eq_true rfl⟩) dX0_dampnessIn_6 rfl rfl (Nat.le_of_ble_eq_true rfl) (by decide) hno (by decide) (by decide)
