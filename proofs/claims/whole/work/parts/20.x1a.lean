/-! ===== GrainSiloModel: its private methods ===== -/
set_option maxHeartbeats 4000000 in
set_option maxRecDepth 100000 in
theorem kX1_thrown (l : Launch) (D : va_G) (h : Nat → Nat) (c1 c2 c3 : ClassId) (th L : Int) (K Dm : Int → Int) (S : Int) (lo hi su db : Int → Int) (dy li so sp : Int) (X : Int → Int → Int) (ke se : Int → Int)  : cI l yX1_thrown wsX1_thrown ({ frames := 0, cells := 0, slots := 0, locals := 0 }) D (tyS c1 c2 c3) [.ref (h 0)] (wN h c1 th L K Dm S lo hi su db dy li so sp X ke se) (wN h c1 th L K Dm S lo hi su db dy li so sp X ke se) (zI th) 0 0 := by
  refine cI.of (cc := cX1_thrown) (maxL := 1) (ret := .int) (by decide) rfl (lv := [(0, .ref (h 0))]) [0] rfl (Nat.le_of_ble_eq_true rfl) ?_
  intro p e s m args below meth c A C hr
  have C : GC p s m args meth c cX1_thrown 1 RX1 wsX1_thrown D (tyS c1 c2 c3) A := C
  have hin : ∀ w ∈ wsX10, w ∈ wsX1_thrown := fun _ h => List.mem_cons_of_mem _ (List.mem_append_right _ h)
  refine j_aload_n (pc := 0) C dX1_thrown_0 0 rfl ?_
  refine j_get (pc := 1) C (ref := "GrainSiloModel") (T := TX1) (N := 16) hin 0 rfl rfl 0 (by decide) (C.w 1 rfl) rfl rfl dX1_thrown_1 ?_
  exact j_iret (pc := 4) C hr dX1_thrown_4 (by rfl) (by rfl) (by decide) (by decide)
set_option maxHeartbeats 4000000 in
set_option maxRecDepth 100000 in
theorem kX1_no (l : Launch) (D : va_G) (h : Nat → Nat) (c1 c2 c3 : ClassId) (th L : Int) (K Dm : Int → Int) (S : Int) (lo hi su db : Int → Int) (dy li so sp : Int) (X : Int → Int → Int) (ke se : Int → Int) (a : Int)  : cI l yX1_no wsX1_no ({ frames := 0, cells := 0, slots := 0, locals := 0 }) D (tyS c1 c2 c3) [.ref (h 0), .int (zI a)] (wN h c1 th L K Dm S lo hi su db dy li so sp X ke se) (wN h c1 a L K Dm S lo hi su db dy li so sp X ke se) (zI 0) 0 0 := by
  refine cI.of (cc := cX1_no) (maxL := 2) (ret := .int) (by decide) rfl (lv := [(0, .ref (h 0)), (1, .int (zI a))]) [0, 1] rfl (Nat.le_of_ble_eq_true rfl) ?_
  intro p e s m args below meth c A C hr
  have C : GC p s m args meth c cX1_no 2 RX1 wsX1_no D (tyS c1 c2 c3) A := C
  have hin : ∀ w ∈ wsX10, w ∈ wsX1_no := fun _ h => List.mem_cons_of_mem _ (List.mem_append_right _ h)
  refine j_aload_n (pc := 0) C dX1_no_0 0 rfl ?_
  refine j_iload_n (pc := 1) C dX1_no_1 1 rfl ?_
  refine j_put (pc := 2) C (ref := "GrainSiloModel") (T := TX1) (N := 16) (ws' := wN h c1 a L K Dm S lo hi su db dy li so sp X ke se) hin tyX1 tyX1_ok nmX1 0 rfl rfl 0 (by decide) (C.w 1 rfl) rfl rfl (by decide +kernel) (Nat.le_of_ble_eq_true rfl) rfl dX1_no_2 ?_
  refine j_iconst (pc := 5) C dX1_no_5 ?_
  exact j_iret (pc := 6) C hr dX1_no_6 (by rfl) (by rfl) (by decide) (by decide)
set_option maxHeartbeats 4000000 in
set_option maxRecDepth 100000 in
theorem kX1_isNot (l : Launch) (D : va_G) (h : Nat → Nat) (c1 c2 c3 : ClassId) (th L : Int) (K Dm : Int → Int) (S : Int) (lo hi su db : Int → Int) (dy li so sp : Int) (X : Int → Int → Int) (ke se : Int → Int) (a : Int)  : cI l yX1_isNot wsX1_isNot ({ frames := 0, cells := 0, slots := 0, locals := 0 }) D (tyS c1 c2 c3) [.ref (h 0), .int (zI a)] (wN h c1 th L K Dm S lo hi su db dy li so sp X ke se) (wN h c1 a L K Dm S lo hi su db dy li so sp X ke se) (zI 0) 0 0 := by
  refine cI.of (cc := cX1_isNot) (maxL := 2) (ret := .boolean) (by decide) rfl (lv := [(0, .ref (h 0)), (1, .int (zI a))]) [0, 1] rfl (Nat.le_of_ble_eq_true rfl) ?_
  intro p e s m args below meth c A C hr
  have C : GC p s m args meth c cX1_isNot 2 RX1 wsX1_isNot D (tyS c1 c2 c3) A := C
  have hin : ∀ w ∈ wsX10, w ∈ wsX1_isNot := fun _ h => List.mem_cons_of_mem _ (List.mem_append_right _ h)
  refine j_aload_n (pc := 0) C dX1_isNot_0 0 rfl ?_
  refine j_iload_n (pc := 1) C dX1_isNot_1 1 rfl ?_
  refine j_put (pc := 2) C (ref := "GrainSiloModel") (T := TX1) (N := 16) (ws' := wN h c1 a L K Dm S lo hi su db dy li so sp X ke se) hin tyX1 tyX1_ok nmX1 0 rfl rfl 0 (by decide) (C.w 1 rfl) rfl rfl (by decide +kernel) (Nat.le_of_ble_eq_true rfl) rfl dX1_isNot_2 ?_
  refine j_iconst (pc := 5) C dX1_isNot_5 ?_
  exact j_zret (pc := 6) C hr dX1_isNot_6 rfl (by rfl) (by rfl) (by decide) (by decide)
set_option maxHeartbeats 4000000 in
set_option maxRecDepth 100000 in
theorem kX1_ok (l : Launch) (D : va_G) (h : Nat → Nat) (c1 c2 c3 : ClassId) (th L : Int) (K Dm : Int → Int) (S : Int) (lo hi su db : Int → Int) (dy li so sp : Int) (X : Int → Int → Int) (ke se : Int → Int) (a : Int)  : cI l yX1_ok wsX1_ok ({ frames := 0, cells := 0, slots := 0, locals := 0 }) D (tyS c1 c2 c3) [.ref (h 0), .int (zI a)] (wN h c1 th L K Dm S lo hi su db dy li so sp X ke se) (wN h c1 0 L K Dm S lo hi su db dy li so sp X ke se) (zI a) 0 0 := by
  refine cI.of (cc := cX1_ok) (maxL := 2) (ret := .int) (by decide) rfl (lv := [(0, .ref (h 0)), (1, .int (zI a))]) [0, 1] rfl (Nat.le_of_ble_eq_true rfl) ?_
  intro p e s m args below meth c A C hr
  have C : GC p s m args meth c cX1_ok 2 RX1 wsX1_ok D (tyS c1 c2 c3) A := C
  have hin : ∀ w ∈ wsX10, w ∈ wsX1_ok := fun _ h => List.mem_cons_of_mem _ (List.mem_append_right _ h)
  refine j_aload_n (pc := 0) C dX1_ok_0 0 rfl ?_
  refine j_iconst (pc := 1) C dX1_ok_1 ?_
  refine j_put (pc := 2) C (ref := "GrainSiloModel") (T := TX1) (N := 16) (ws' := wN h c1 0 L K Dm S lo hi su db dy li so sp X ke se) hin tyX1 tyX1_ok nmX1 0 rfl rfl 0 (by decide) (C.w 1 rfl) rfl rfl (by decide +kernel) (Nat.le_of_ble_eq_true rfl) rfl dX1_ok_2 ?_
  refine j_iload_n (pc := 5) C dX1_ok_5 1 rfl ?_
  exact j_iret (pc := 6) C hr dX1_ok_6 (by rfl) (by rfl) (by decide) (by decide)
set_option maxHeartbeats 4000000 in
set_option maxRecDepth 100000 in
theorem kX1_isIn (l : Launch) (D : va_G) (c1 c2 c3 : ClassId) (a u v : Int) (ha : zR a) (hu : zR u) (hv : zR v) : cI l yX1_isIn wsX1_isIn ({ frames := 0, cells := 0, slots := 0, locals := 0 }) D (tyS c1 c2 c3) [.int (zI a), .int (zI u), .int (zI v)] ([]) ([]) (zI (if u ≤ a ∧ a ≤ v then 1 else 0)) 0 0 := by
  refine cI.of (cc := cX1_isIn) (maxL := 3) (ret := .boolean) (by decide) rfl (lv := [(0, .int (zI a)), (1, .int (zI u)), (2, .int (zI v))]) [0, 1, 2] rfl (Nat.le_of_ble_eq_true rfl) ?_
  intro p e s m args below meth c A C hr
  have C : GC p s m args meth c cX1_isIn 3 RX1 wsX1_isIn D (tyS c1 c2 c3) A := C
  obtain ⟨ha1, ha2⟩ := ha
  obtain ⟨hu1, hu2⟩ := hu
  obtain ⟨hv1, hv2⟩ := hv
  refine j_iload_n (pc := 0) C dX1_isIn_0 0 rfl ?_
  refine j_iload_n (pc := 1) C dX1_isIn_1 1 rfl ?_
  refine j_icmp_lt (pc := 2) C 14 dX1_isIn_2 (by decide) ⟨by omega, by omega⟩ ⟨by omega, by omega⟩ (fun c_2 => ?_) (fun c_2 => ?_)
  · skip
    refine j_iconst (pc := 14) C dX1_isIn_14 ?_
    exact j_zret (pc := 15) C hr dX1_isIn_15 rfl (by first | rfl | rw [if_pos (by omega)] | rw [if_neg (by omega)]) (by rfl) (by decide) (by decide)
  · skip
    refine j_iload_n (pc := 5) C dX1_isIn_5 0 rfl ?_
    refine j_iload_n (pc := 6) C dX1_isIn_6 2 rfl ?_
    refine j_icmp_gt (pc := 7) C 14 dX1_isIn_7 (by decide) ⟨by omega, by omega⟩ ⟨by omega, by omega⟩ (fun c_7 => ?_) (fun c_7 => ?_)
    · skip
      refine j_iconst (pc := 14) C dX1_isIn_14 ?_
      exact j_zret (pc := 15) C hr dX1_isIn_15 rfl (by first | rfl | rw [if_pos (by omega)] | rw [if_neg (by omega)]) (by rfl) (by decide) (by decide)
    · skip
      refine j_iconst (pc := 10) C dX1_isIn_10 ?_
      refine j_goto (pc := 11) C 15 dX1_isIn_11 (by decide) ?_
      exact j_zret (pc := 15) C hr dX1_isIn_15 rfl (by first | rfl | rw [if_pos (by omega)] | rw [if_neg (by omega)]) (by rfl) (by decide) (by decide)
set_option maxHeartbeats 4000000 in
set_option maxRecDepth 100000 in
theorem kX1_isLayer (l : Launch) (D : va_G) (h : Nat → Nat) (c1 c2 c3 : ClassId) (th L : Int) (K Dm : Int → Int) (S : Int) (lo hi su db : Int → Int) (dy li so sp : Int) (X : Int → Int → Int) (ke se : Int → Int) (a : Int) (hL0 : 0 ≤ L) (hL : L ≤ 12) (ha : zR a) : cI l yX1_isLayer wsX1_isLayer ({ frames := 1, cells := 0, slots := 0, locals := 22 }) D (tyS c1 c2 c3) [.ref (h 0), .int (zI a)] (wN h c1 th L K Dm S lo hi su db dy li so sp X ke se) (wN h c1 th L K Dm S lo hi su db dy li so sp X ke se) (zI (if 0 ≤ a ∧ a ≤ L - 1 then 1 else 0)) 0 0 := by
  refine cI.of (cc := cX1_isLayer) (maxL := 2) (ret := .boolean) (by decide) rfl (lv := [(0, .ref (h 0)), (1, .int (zI a))]) [0, 1] rfl (Nat.le_of_ble_eq_true rfl) ?_
  intro p e s m args below meth c A C hr
  have C : GC p s m args meth c cX1_isLayer 2 RX1 wsX1_isLayer D (tyS c1 c2 c3) A := C
  have hin : ∀ w ∈ wsX10, w ∈ wsX1_isLayer := fun _ h => List.mem_cons_of_mem _ (List.mem_append_right _ h)
  obtain ⟨ha1, ha2⟩ := ha
  refine j_iload_n (pc := 0) C dX1_isLayer_0 1 rfl ?_
  refine j_iconst (pc := 1) C dX1_isLayer_1 ?_
  refine j_aload_n (pc := 2) C dX1_isLayer_2 0 rfl ?_
  refine j_get (pc := 3) C (ref := "GrainSiloModel") (T := TX1) (N := 16) hin 0 rfl rfl 1 (by decide) (C.w 1 rfl) rfl rfl dX1_isLayer_3 ?_
  refine j_iconst (pc := 6) C dX1_isLayer_6 ?_
  refine j_isub (pc := 7) C dX1_isLayer_7 ?_
  refine j_callSI (pc := 8) C (As := [.int (zI a), .int (zI 0), .int (zI (L - 1))]) (rest := []) (kX1_isIn l D c1 c2 c3 a 0 (L - 1) ⟨by omega, by omega⟩ ⟨by omega, by omega⟩ ⟨by omega, by omega⟩) (va_cwS 3 C.2.2.2.2.1 gX1_isLayer_X1_isIn rfl rfl rfl (by decide +kernel) ⟨Nat.le_of_ble_eq_true rfl, Nat.le_of_ble_eq_true rfl⟩) dX1_isLayer_8 rfl rfl (Nat.le_of_ble_eq_true rfl) (by decide) ?_
  exact j_zret (pc := 11) C hr dX1_isLayer_11 (by split <;> rfl) (by rfl) (by rfl) (by decide) (by decide)
set_option maxHeartbeats 4000000 in
set_option maxRecDepth 100000 in
theorem kX1_isSample (l : Launch) (D : va_G) (h : Nat → Nat) (c1 c2 c3 : ClassId) (th L : Int) (K Dm : Int → Int) (S : Int) (lo hi su db : Int → Int) (dy li so sp : Int) (X : Int → Int → Int) (ke se : Int → Int) (a : Int) (hS0 : 0 ≤ S) (hS : S ≤ 16) (ha : zR a) : cI l yX1_isSample wsX1_isSample ({ frames := 1, cells := 0, slots := 0, locals := 22 }) D (tyS c1 c2 c3) [.ref (h 0), .int (zI a)] (wN h c1 th L K Dm S lo hi su db dy li so sp X ke se) (wN h c1 th L K Dm S lo hi su db dy li so sp X ke se) (zI (if 0 ≤ a ∧ a ≤ S - 1 then 1 else 0)) 0 0 := by
  refine cI.of (cc := cX1_isSample) (maxL := 2) (ret := .boolean) (by decide) rfl (lv := [(0, .ref (h 0)), (1, .int (zI a))]) [0, 1] rfl (Nat.le_of_ble_eq_true rfl) ?_
  intro p e s m args below meth c A C hr
  have C : GC p s m args meth c cX1_isSample 2 RX1 wsX1_isSample D (tyS c1 c2 c3) A := C
  have hin : ∀ w ∈ wsX10, w ∈ wsX1_isSample := fun _ h => List.mem_cons_of_mem _ (List.mem_append_right _ h)
  obtain ⟨ha1, ha2⟩ := ha
  refine j_iload_n (pc := 0) C dX1_isSample_0 1 rfl ?_
  refine j_iconst (pc := 1) C dX1_isSample_1 ?_
  refine j_aload_n (pc := 2) C dX1_isSample_2 0 rfl ?_
  refine j_get (pc := 3) C (ref := "GrainSiloModel") (T := TX1) (N := 16) hin 0 rfl rfl 4 (by decide) (C.w 1 rfl) rfl rfl dX1_isSample_3 ?_
  refine j_iconst (pc := 6) C dX1_isSample_6 ?_
  refine j_isub (pc := 7) C dX1_isSample_7 ?_
  refine j_callSI (pc := 8) C (As := [.int (zI a), .int (zI 0), .int (zI (S - 1))]) (rest := []) (kX1_isIn l D c1 c2 c3 a 0 (S - 1) ⟨by omega, by omega⟩ ⟨by omega, by omega⟩ ⟨by omega, by omega⟩) (va_cwS 3 C.2.2.2.2.1 gX1_isSample_X1_isIn rfl rfl rfl (by decide +kernel) ⟨Nat.le_of_ble_eq_true rfl, Nat.le_of_ble_eq_true rfl⟩) dX1_isSample_8 rfl rfl (Nat.le_of_ble_eq_true rfl) (by decide) ?_
  exact j_zret (pc := 11) C hr dX1_isSample_11 (by split <;> rfl) (by rfl) (by rfl) (by decide) (by decide)
set_option maxHeartbeats 4000000 in
set_option maxRecDepth 100000 in
theorem kX1_areLayers (l : Launch) (D : va_G) (h : Nat → Nat) (c1 c2 c3 : ClassId) (th L : Int) (K Dm : Int → Int) (S : Int) (lo hi su db : Int → Int) (dy li so sp : Int) (X : Int → Int → Int) (ke se : Int → Int) (a b : Int) (hL0 : 0 ≤ L) (hL : L ≤ 12) (ha : zR a) (hb : zR b) : cI l yX1_areLayers wsX1_areLayers ({ frames := 2, cells := 0, slots := 0, locals := 43 }) D (tyS c1 c2 c3) [.ref (h 0), .int (zI a), .int (zI b)] (wN h c1 th L K Dm S lo hi su db dy li so sp X ke se) (wN h c1 th L K Dm S lo hi su db dy li so sp X ke se) (zI (if 0 ≤ a ∧ a ≤ L - 1 ∧ 0 ≤ b ∧ b ≤ L - 1 ∧ a ≤ b then 1 else 0)) 0 0 := by
  refine cI.of (cc := cX1_areLayers) (maxL := 3) (ret := .boolean) (by decide) rfl (lv := [(0, .ref (h 0)), (1, .int (zI a)), (2, .int (zI b))]) [0, 1, 2] rfl (Nat.le_of_ble_eq_true rfl) ?_
  intro p e s m args below meth c A C hr
  have C : GC p s m args meth c cX1_areLayers 3 RX1 wsX1_areLayers D (tyS c1 c2 c3) A := C
  have hin : ∀ w ∈ wsX10, w ∈ wsX1_areLayers := fun _ h => List.mem_cons_of_mem _ (List.mem_append_right _ h)
  obtain ⟨ha1, ha2⟩ := ha
  obtain ⟨hb1, hb2⟩ := hb
  refine j_aload_n (pc := 0) C dX1_areLayers_0 0 rfl ?_
  refine j_iload_n (pc := 1) C dX1_areLayers_1 1 rfl ?_
  refine j_callI (pc := 2) C (As := [.int (zI a)]) (rest := []) (kX1_isLayer l D h c1 c2 c3 th L K Dm S lo hi su db dy li so sp X ke se a (by omega) (by omega) ⟨by omega, by omega⟩) (cwV 1 C.2.2.2.2.1 gX1_areLayers_X1_isLayer rfl rfl rfl (by decide +kernel) ⟨Nat.le_of_ble_eq_true rfl, Nat.le_of_ble_eq_true rfl⟩) 0 (ci := 1) rfl rfl rfl dX1_areLayers_2 rfl rfl (Nat.le_of_ble_eq_true rfl) (by decide) ?_
  refine j_if_eq (pc := 5) C 25 dX1_areLayers_5 (by decide) ⟨by omega, by omega⟩ (fun c_5 => ?_) (fun c_5 => ?_)
  · skip
    refine j_iconst (pc := 25) C dX1_areLayers_25 ?_
    exact j_zret (pc := 26) C hr dX1_areLayers_26 rfl (by first | rfl | rw [if_pos (by omega)] | rw [if_neg (by omega)]) (by rfl) (by decide) (by decide)
  · skip
    refine j_aload_n (pc := 8) C dX1_areLayers_8 0 rfl ?_
    refine j_iload_n (pc := 9) C dX1_areLayers_9 2 rfl ?_
    refine j_callI (pc := 10) C (As := [.int (zI b)]) (rest := []) (kX1_isLayer l D h c1 c2 c3 th L K Dm S lo hi su db dy li so sp X ke se b (by omega) (by omega) ⟨by omega, by omega⟩) (cwV 1 C.2.2.2.2.1 gX1_areLayers_X1_isLayer rfl rfl rfl (by decide +kernel) ⟨Nat.le_of_ble_eq_true rfl, Nat.le_of_ble_eq_true rfl⟩) 0 (ci := 1) rfl rfl rfl dX1_areLayers_10 rfl rfl (Nat.le_of_ble_eq_true rfl) (by decide) ?_
    refine j_if_eq (pc := 13) C 25 dX1_areLayers_13 (by decide) ⟨by omega, by omega⟩ (fun c_13 => ?_) (fun c_13 => ?_)
    · skip
      refine j_iconst (pc := 25) C dX1_areLayers_25 ?_
      exact j_zret (pc := 26) C hr dX1_areLayers_26 rfl (by first | rfl | rw [if_pos (by omega)] | rw [if_neg (by omega)]) (by rfl) (by decide) (by decide)
    · skip
      refine j_iload_n (pc := 16) C dX1_areLayers_16 1 rfl ?_
      refine j_iload_n (pc := 17) C dX1_areLayers_17 2 rfl ?_
      refine j_icmp_gt (pc := 18) C 25 dX1_areLayers_18 (by decide) ⟨by omega, by omega⟩ ⟨by omega, by omega⟩ (fun c_18 => ?_) (fun c_18 => ?_)
      · skip
        refine j_iconst (pc := 25) C dX1_areLayers_25 ?_
        exact j_zret (pc := 26) C hr dX1_areLayers_26 rfl (by first | rfl | rw [if_pos (by omega)] | rw [if_neg (by omega)]) (by rfl) (by decide) (by decide)
      · skip
        refine j_iconst (pc := 21) C dX1_areLayers_21 ?_
        refine j_goto (pc := 22) C 26 dX1_areLayers_22 (by decide) ?_
        exact j_zret (pc := 26) C hr dX1_areLayers_26 rfl (by first | rfl | rw [if_pos (by omega)] | rw [if_neg (by omega)]) (by rfl) (by decide) (by decide)
set_option maxHeartbeats 4000000 in
set_option maxRecDepth 100000 in
theorem kX1_bound (l : Launch) (D : va_G) (h : Nat → Nat) (c1 c2 c3 : ClassId) (th L : Int) (K Dm : Int → Int) (S : Int) (lo hi su db : Int → Int) (dy li so sp : Int) (X : Int → Int → Int) (ke se : Int → Int) (a b d : Int) (a0 : 0 ≤ a) (a1 : a ≤ 12) (b0 : 0 ≤ b) (b1 : b ≤ 12) (hx : zR (X a b)) (hd : zR d) : cV l yX1_bound wsX1_bound ({ frames := 1, cells := 0, slots := 0, locals := 21 }) D (tyS c1 c2 c3) [.ref (h 0), .int (zI a), .int (zI b), .int (zI d)] (wN h c1 th L K Dm S lo hi su db dy li so sp X ke se) (wN h c1 th L K Dm S lo hi su db dy li so sp (bnd X a b d) ke se) 0 0 := by
  refine cV.of (cc := cX1_bound) (maxL := 4) (by decide) rfl (lv := [(0, .ref (h 0)), (1, .int (zI a)), (2, .int (zI b)), (3, .int (zI d))]) [0, 1, 2, 3] rfl (Nat.le_of_ble_eq_true rfl) ?_
  intro p e s m args below meth c A C hr
  have C : GC p s m args meth c cX1_bound 4 RX1 wsX1_bound D (tyS c1 c2 c3) A := C
  have hin : ∀ w ∈ wsX10, w ∈ wsX1_bound := fun _ h => List.mem_cons_of_mem _ (List.mem_append_right _ h)
  refine j_aload_n (pc := 0) C dX1_bound_0 0 rfl ?_
  refine j_get (pc := 1) C (ref := "GrainSiloModel") (T := TX1) (N := 16) hin 0 rfl rfl 13 (by decide) (C.w 1 rfl) rfl rfl dX1_bound_1 ?_
  refine j_bipush (pc := 4) C dX1_bound_4 (by decide +kernel) ?_
  refine j_iload_n (pc := 6) C dX1_bound_6 1 rfl ?_
  refine j_imul (pc := 7) C dX1_bound_7 ?_
  refine j_iload_n (pc := 8) C dX1_bound_8 2 rfl ?_
  refine j_iadd (pc := 9) C dX1_bound_9 ?_
  refine j_aload_n (pc := 10) C dX1_bound_10 0 rfl ?_
  refine j_get (pc := 11) C (ref := "GrainSiloModel") (T := TX1) (N := 16) hin 0 rfl rfl 13 (by decide) (C.w 1 rfl) rfl rfl dX1_bound_11 ?_
  refine j_bipush (pc := 14) C dX1_bound_14 (by decide +kernel) ?_
  refine j_iload_n (pc := 16) C dX1_bound_16 1 rfl ?_
  refine j_imul (pc := 17) C dX1_bound_17 ?_
  refine j_iload_n (pc := 18) C dX1_bound_18 2 rfl ?_
  refine j_iadd (pc := 19) C dX1_bound_19 ?_
  refine j_xald (pc := 20) C a b (by omega) (by omega) (by omega) (by omega) (by omega) 7 0 rfl rfl dX1_bound_20 ?_
  refine j_iload_n (pc := 21) C dX1_bound_21 3 rfl ?_
  refine j_min (pc := 22) C (C.w 2 rfl) (C.w 3 rfl) (C.w 4 rfl) (C.w 5 rfl) (by decide) (Nat.le_of_ble_eq_true rfl) (by decide) (by decide) hx hd dX1_bound_22 ?_
  refine j_xast (pc := 25) C a b (by omega) (by omega) (by omega) (by omega) (by omega) 7 0 rfl rfl (ws' := wN h c1 th L K Dm S lo hi su db dy li so sp (up2 X a b (min (X a b) d)) ke se) rfl dX1_bound_25 ?_
  exact j_vret (pc := 26) C hr dX1_bound_26 (by rfl) (by decide) (by decide)
set_option maxHeartbeats 4000000 in
set_option maxRecDepth 100000 in
theorem kX1_tell (l : Launch) (D : va_G) (h : Nat → Nat) (c1 c2 c3 : ClassId) (th L : Int) (K Dm : Int → Int) (S : Int) (lo hi su db : Int → Int) (dy li so sp : Int) (X : Int → Int → Int) (ke se : Int → Int) (a b u v : Int) (a0 : 0 ≤ a) (ab : a ≤ b) (b1 : b < 12) (hx : zR (X a (b + 1))) (hy : zR (X (b + 1) a)) (hu : zR (u + v)) (hv : zR (v - u)) : cV l yX1_tell wsX1_tell ({ frames := 2, cells := 0, slots := 0, locals := 44 }) D (tyS c1 c2 c3) [.ref (h 0), .int (zI a), .int (zI b), .int (zI u), .int (zI v)] (wN h c1 th L K Dm S lo hi su db dy li so sp X ke se) (wN h c1 th L K Dm S lo hi su db dy li so sp (tel X a b u v) ke se) 0 0 := by
  refine cV.of (cc := cX1_tell) (maxL := 5) (by decide) rfl (lv := [(0, .ref (h 0)), (1, .int (zI a)), (2, .int (zI b)), (3, .int (zI u)), (4, .int (zI v))]) [0, 1, 2, 3, 4] rfl (Nat.le_of_ble_eq_true rfl) ?_
  intro p e s m args below meth c A C hr
  have C : GC p s m args meth c cX1_tell 5 RX1 wsX1_tell D (tyS c1 c2 c3) A := C
  have hin : ∀ w ∈ wsX10, w ∈ wsX1_tell := fun _ h => List.mem_cons_of_mem _ (List.mem_append_right _ h)
  refine j_aload_n (pc := 0) C dX1_tell_0 0 rfl ?_
  refine j_iload_n (pc := 1) C dX1_tell_1 1 rfl ?_
  refine j_iload_n (pc := 2) C dX1_tell_2 2 rfl ?_
  refine j_iconst (pc := 3) C dX1_tell_3 ?_
  refine j_iadd (pc := 4) C dX1_tell_4 ?_
  refine j_iload_n (pc := 5) C dX1_tell_5 3 rfl ?_
  refine j_iload (pc := 6) C dX1_tell_6 4 rfl ?_
  refine j_iadd (pc := 8) C dX1_tell_8 ?_
  refine j_callV (pc := 9) C (As := [.int (zI a), .int (zI (b + 1)), .int (zI (u + v))]) (rest := []) (kX1_bound l D h c1 c2 c3 th L K Dm S lo hi su db dy li so sp X ke se a (b + 1) (u + v) (by omega) (by omega) (by omega) (by omega) hx hu) (cwV 3 C.2.2.2.2.1 gX1_tell_X1_bound rfl rfl rfl (by decide +kernel) ⟨Nat.le_of_ble_eq_true rfl, Nat.le_of_ble_eq_true rfl⟩) 0 (ci := 1) rfl rfl rfl dX1_tell_9 rfl rfl (Nat.le_of_ble_eq_true rfl) (by decide) ?_
  refine j_aload_n (pc := 12) C dX1_tell_12 0 rfl ?_
  refine j_iload_n (pc := 13) C dX1_tell_13 2 rfl ?_
  refine j_iconst (pc := 14) C dX1_tell_14 ?_
  refine j_iadd (pc := 15) C dX1_tell_15 ?_
  refine j_iload_n (pc := 16) C dX1_tell_16 1 rfl ?_
  refine j_iload (pc := 17) C dX1_tell_17 4 rfl ?_
  refine j_iload_n (pc := 19) C dX1_tell_19 3 rfl ?_
  refine j_isub (pc := 20) C dX1_tell_20 ?_
  refine j_callV (pc := 21) C (As := [.int (zI (b + 1)), .int (zI a), .int (zI (v - u))]) (rest := []) (kX1_bound l D h c1 c2 c3 th L K Dm S lo hi su db dy li so sp (bnd X a (b + 1) (u + v)) ke se (b + 1) a (v - u) (by omega) (by omega) (by omega) (by omega) (by rw [bnd_at, if_neg (by omega)]; exact hy) hv) (cwV 3 C.2.2.2.2.1 gX1_tell_X1_bound rfl rfl rfl (by decide +kernel) ⟨Nat.le_of_ble_eq_true rfl, Nat.le_of_ble_eq_true rfl⟩) 0 (ci := 1) rfl rfl rfl dX1_tell_21 rfl rfl (Nat.le_of_ble_eq_true rfl) (by decide) ?_
  exact j_vret (pc := 24) C hr dX1_tell_24 (by rfl) (by decide) (by decide)
set_option maxHeartbeats 4000000 in
set_option maxRecDepth 100000 in
theorem kX1_begin (l : Launch) (D : va_G) (h : Nat → Nat) (c1 c2 c3 : ClassId) (th L : Int) (K Dm : Int → Int) (S : Int) (lo hi su db : Int → Int) (dy li so sp : Int) (X : Int → Int → Int) (ke se : Int → Int) (hok : okS Dm L lo hi su db S) : cV l yX1_begin wsX1_begin ({ frames := 3, cells := 0, slots := 0, locals := 68 }) D (tyS c1 c2 c3) [.ref (h 0)] (wN h c1 th L K Dm S lo hi su db dy li so sp X ke se) (wN h c1 th L K Dm S lo hi su db dy li so sp (bgn X L lo hi su db S) ke se) 0 0 := by
  refine cV.of (cc := cX1_begin) (maxL := 3) (by decide) rfl (lv := [(0, .ref (h 0))]) [0] rfl (Nat.le_of_ble_eq_true rfl) ?_
  intro p e s m args below meth c A C hr
  have C : GC p s m args meth c cX1_begin 3 RX1 wsX1_begin D (tyS c1 c2 c3) A := C
  have hin : ∀ w ∈ wsX10, w ∈ wsX1_begin := fun _ h => List.mem_cons_of_mem _ (List.mem_append_right _ h)
  obtain ⟨⟨hL0, hL⟩, ⟨hS0, hS⟩, hf, hs⟩ := id hok
  refine j_iconst (pc := 0) C dX1_begin_0 ?_
  refine j_istore_n (pc := 1) C (lv' := [(0, .ref (h 0)), (1, .int (zI 0))]) dX1_begin_1 (by decide) [1, 0] rfl ?_
  refine J.cast (ws' := wN h c1 th L K Dm S lo hi su db dy li so sp (mat2 ini X L 0 0) ke se) (lv' := [(0, .ref (h 0)), (1, .int (zI 0))]) ?_ (by rw [mat2_0]) (by rfl) rfl
  refine j_up (fun i : Int => wN h c1 th L K Dm S lo hi su db dy li so sp (mat2 ini X L i 0) ke se) (fun i : Int => [(0, .ref (h 0)), (1, .int (zI i))]) (fun i : Int => True) 0 (L + 1) (by omega) trivial ?_ ?_
  · intro i h0_2 h1_2 hI_2 hk_2
    try dsimp only at hI_2 hk_2 ⊢
    refine j_iload_n (pc := 2) C dX1_begin_2 1 rfl ?_
    refine j_aload_n (pc := 3) C dX1_begin_3 0 rfl ?_
    refine j_get (pc := 4) C (ref := "GrainSiloModel") (T := TX1) (N := 16) hin 0 rfl rfl 1 (by decide) (C.w 1 rfl) rfl rfl dX1_begin_4 ?_
    refine j_icmp_gt (pc := 7) C 54 dX1_begin_7 (by decide) ⟨by omega, by omega⟩ ⟨by omega, by omega⟩ (fun c_7 => absurd c_7 (by omega)) (fun c_7 => ?_)
    refine j_iconst (pc := 10) C dX1_begin_10 ?_
    refine j_istore_n (pc := 11) C (lv' := [(0, .ref (h 0)), (1, .int (zI i)), (2, .int (zI 0))]) dX1_begin_11 (by decide) [1, 2, 0] rfl ?_
    refine J.cast (ws' := wN h c1 th L K Dm S lo hi su db dy li so sp (mat2 ini X L i 0) ke se) (lv' := [(0, .ref (h 0)), (1, .int (zI i)), (2, .int (zI 0))]) ?_ (by rfl) (by rfl) rfl
    refine j_up (fun j : Int => wN h c1 th L K Dm S lo hi su db dy li so sp (mat2 ini X L i j) ke se) (fun j : Int => [(0, .ref (h 0)), (1, .int (zI i)), (2, .int (zI j))]) (fun j : Int => True) 0 (L + 1) (by omega) trivial ?_ ?_
    · intro j h0_12 h1_12 hI_12 hk_12
      try dsimp only at hI_12 hk_12 ⊢
      refine j_iload_n (pc := 12) C dX1_begin_12 2 rfl ?_
      refine j_aload_n (pc := 13) C dX1_begin_13 0 rfl ?_
      refine j_get (pc := 14) C (ref := "GrainSiloModel") (T := TX1) (N := 16) hin 0 rfl rfl 1 (by decide) (C.w 1 rfl) rfl rfl dX1_begin_14 ?_
      refine j_icmp_gt (pc := 17) C 48 dX1_begin_17 (by decide) ⟨by omega, by omega⟩ ⟨by omega, by omega⟩ (fun c_17 => absurd c_17 (by omega)) (fun c_17 => ?_)
      refine j_aload_n (pc := 20) C dX1_begin_20 0 rfl ?_
      refine j_get (pc := 21) C (ref := "GrainSiloModel") (T := TX1) (N := 16) hin 0 rfl rfl 13 (by decide) (C.w 2 rfl) rfl rfl dX1_begin_21 ?_
      refine j_bipush (pc := 24) C dX1_begin_24 (by decide +kernel) ?_
      refine j_iload_n (pc := 26) C dX1_begin_26 1 rfl ?_
      refine j_imul (pc := 27) C dX1_begin_27 ?_
      refine j_iload_n (pc := 28) C dX1_begin_28 2 rfl ?_
      refine j_iadd (pc := 29) C dX1_begin_29 ?_
      refine j_iload_n (pc := 30) C dX1_begin_30 1 rfl ?_
      refine j_iload_n (pc := 31) C dX1_begin_31 2 rfl ?_
      refine j_icmp_ne (pc := 32) C 39 dX1_begin_32 (by decide) ⟨by omega, by omega⟩ ⟨by omega, by omega⟩ (fun c_32 => ?_) (fun c_32 => ?_)
      · skip
        refine j_ldc (pc := 39) C (z := 1000000) (C.w 3 rfl) (by decide +kernel) dX1_begin_39 ?_
        refine j_xast (pc := 41) C i j (by omega) (by omega) (by omega) (by omega) (by omega) 7 0 rfl rfl (ws' := wN h c1 th L K Dm S lo hi su db dy li so sp (up2 (mat2 ini X L i j) i j 1000000) ke se) rfl dX1_begin_41 ?_
        refine j_iinc (pc := 42) C (lv' := [(0, .ref (h 0)), (1, .int (zI i)), (2, .int (zI (j + 1)))]) dX1_begin_42 2 rfl (by decide) [1, 2, 0] rfl ?_
        refine j_goto (pc := 45) C 12 dX1_begin_45 (by decide) ?_
        exact J.cast (hk_12 trivial) (by (rw [mat2_up ini X L i j h0_2 h0_12 (by omega)]; first | rw [show ini i j = 0 from if_pos (by omega)] | rw [show ini i j = 1000000 from if_neg (by omega)])) (by rfl) rfl
      · skip
        refine j_iconst (pc := 35) C dX1_begin_35 ?_
        refine j_goto (pc := 36) C 41 dX1_begin_36 (by decide) ?_
        refine j_xast (pc := 41) C i j (by omega) (by omega) (by omega) (by omega) (by omega) 7 0 rfl rfl (ws' := wN h c1 th L K Dm S lo hi su db dy li so sp (up2 (mat2 ini X L i j) i j 0) ke se) rfl dX1_begin_41 ?_
        refine j_iinc (pc := 42) C (lv' := [(0, .ref (h 0)), (1, .int (zI i)), (2, .int (zI (j + 1)))]) dX1_begin_42 2 rfl (by decide) [1, 2, 0] rfl ?_
        refine j_goto (pc := 45) C 12 dX1_begin_45 (by decide) ?_
        exact J.cast (hk_12 trivial) (by (rw [mat2_up ini X L i j h0_2 h0_12 (by omega)]; first | rw [show ini i j = 0 from if_pos (by omega)] | rw [show ini i j = 1000000 from if_neg (by omega)])) (by rfl) rfl
    · intro hI_12
      try dsimp only at hI_12 ⊢
      refine j_iload_n (pc := 12) C dX1_begin_12 2 rfl ?_
      refine j_aload_n (pc := 13) C dX1_begin_13 0 rfl ?_
      refine j_get (pc := 14) C (ref := "GrainSiloModel") (T := TX1) (N := 16) hin 0 rfl rfl 1 (by decide) (C.w 1 rfl) rfl rfl dX1_begin_14 ?_
      refine j_icmp_gt (pc := 17) C 48 dX1_begin_17 (by decide) ⟨by omega, by omega⟩ ⟨by omega, by omega⟩ (fun c_17 => ?_) (fun c_17 => absurd c_17 (by omega))
      refine j_iinc (pc := 48) C (lv' := [(0, .ref (h 0)), (1, .int (zI (i + 1))), (2, .int (zI ((L + 1))))]) dX1_begin_48 1 rfl (by decide) [1, 0, 2] rfl ?_
      refine j_goto (pc := 51) C 2 dX1_begin_51 (by decide) ?_
      refine J.pick (lv' := [(0, .ref (h 0)), (1, .int (zI (i + 1)))]) [0, 1] rfl ?_
      exact J.cast (hk_2 trivial) (by rw [mat2_row ini X L i h0_2]) (by rfl) rfl
  · intro hI_2
    try dsimp only at hI_2 ⊢
    refine j_iload_n (pc := 2) C dX1_begin_2 1 rfl ?_
    refine j_aload_n (pc := 3) C dX1_begin_3 0 rfl ?_
    refine j_get (pc := 4) C (ref := "GrainSiloModel") (T := TX1) (N := 16) hin 0 rfl rfl 1 (by decide) (C.w 1 rfl) rfl rfl dX1_begin_4 ?_
    refine j_icmp_gt (pc := 7) C 54 dX1_begin_7 (by decide) ⟨by omega, by omega⟩ ⟨by omega, by omega⟩ (fun c_7 => ?_) (fun c_7 => absurd c_7 (by omega))
    refine j_iconst (pc := 54) C dX1_begin_54 ?_
    refine j_istore_n (pc := 55) C (lv' := [(0, .ref (h 0)), (1, .int (zI 0))]) dX1_begin_55 (by decide) [1, 0] rfl ?_
    refine J.cast (ws' := wN h c1 th L K Dm S lo hi su db dy li so sp (eg (matA ini X L) 0) ke se) (lv' := [(0, .ref (h 0)), (1, .int (zI 0))]) ?_ (by rfl) (by rfl) rfl
    refine j_up (fun i : Int => wN h c1 th L K Dm S lo hi su db dy li so sp (eg (matA ini X L) i) ke se) (fun i : Int => [(0, .ref (h 0)), (1, .int (zI i))]) (fun i : Int => True) 0 L (by omega) trivial ?_ ?_
    · intro i h0_56 h1_56 hI_56 hk_56
      try dsimp only at hI_56 hk_56 ⊢
      have w1 := Fok_eg hf (Fok_ini hL hf X) i h0_56 (by omega)
      have e1 := zs_up Dm 0 i h0_56
      have e2 := hf i h0_56 h1_56
      have w2 := Fok_bnd w1 i (i + 1) 40 (by omega) (by omega)
      refine j_iload_n (pc := 56) C dX1_begin_56 1 rfl ?_
      refine j_aload_n (pc := 57) C dX1_begin_57 0 rfl ?_
      refine j_get (pc := 58) C (ref := "GrainSiloModel") (T := TX1) (N := 16) hin 0 rfl rfl 1 (by decide) (C.w 1 rfl) rfl rfl dX1_begin_58 ?_
      refine j_icmp_ge (pc := 61) C 89 dX1_begin_61 (by decide) ⟨by omega, by omega⟩ ⟨by omega, by omega⟩ (fun c_61 => absurd c_61 (by omega)) (fun c_61 => ?_)
      refine j_aload_n (pc := 64) C dX1_begin_64 0 rfl ?_
      refine j_iload_n (pc := 65) C dX1_begin_65 1 rfl ?_
      refine j_iload_n (pc := 66) C dX1_begin_66 1 rfl ?_
      refine j_iconst (pc := 67) C dX1_begin_67 ?_
      refine j_iadd (pc := 68) C dX1_begin_68 ?_
      refine j_bipush (pc := 69) C dX1_begin_69 (by decide +kernel) ?_
      refine j_callV (pc := 71) C (As := [.int (zI i), .int (zI (i + 1)), .int (zI 40)]) (rest := []) (kX1_bound l D h c1 c2 c3 th L K Dm S lo hi su db dy li so sp (eg (matA ini X L) i) ke se i (i + 1) 40 (by omega) (by omega) (by omega) (by omega) ⟨by have := Fok_B hL hf w1 i (i + 1) (by omega) (by omega) (by omega) (by omega); omega, by have := Fok_B hL hf w1 i (i + 1) (by omega) (by omega) (by omega) (by omega); omega⟩ ⟨by omega, by omega⟩) (cwV 3 C.2.2.2.2.1 gX1_begin_X1_bound rfl rfl rfl (by decide +kernel) ⟨Nat.le_of_ble_eq_true rfl, Nat.le_of_ble_eq_true rfl⟩) 0 (ci := 1) rfl rfl rfl dX1_begin_71 rfl rfl (Nat.le_of_ble_eq_true rfl) (by decide) ?_
      refine j_aload_n (pc := 74) C dX1_begin_74 0 rfl ?_
      refine j_iload_n (pc := 75) C dX1_begin_75 1 rfl ?_
      refine j_iconst (pc := 76) C dX1_begin_76 ?_
      refine j_iadd (pc := 77) C dX1_begin_77 ?_
      refine j_iload_n (pc := 78) C dX1_begin_78 1 rfl ?_
      refine j_iconst (pc := 79) C dX1_begin_79 ?_
      refine j_callV (pc := 80) C (As := [.int (zI (i + 1)), .int (zI i), .int (zI 0)]) (rest := []) (kX1_bound l D h c1 c2 c3 th L K Dm S lo hi su db dy li so sp (bnd (eg (matA ini X L) i) i (i + 1) 40) ke se (i + 1) i 0 (by omega) (by omega) (by omega) (by omega) ⟨by have := Fok_B hL hf w2 (i + 1) i (by omega) (by omega) (by omega) (by omega); omega, by have := Fok_B hL hf w2 (i + 1) i (by omega) (by omega) (by omega) (by omega); omega⟩ ⟨by omega, by omega⟩) (cwV 3 C.2.2.2.2.1 gX1_begin_X1_bound rfl rfl rfl (by decide +kernel) ⟨Nat.le_of_ble_eq_true rfl, Nat.le_of_ble_eq_true rfl⟩) 0 (ci := 1) rfl rfl rfl dX1_begin_80 rfl rfl (Nat.le_of_ble_eq_true rfl) (by decide) ?_
      refine j_iinc (pc := 83) C (lv' := [(0, .ref (h 0)), (1, .int (zI (i + 1)))]) dX1_begin_83 1 rfl (by decide) [1, 0] rfl ?_
      refine j_goto (pc := 86) C 56 dX1_begin_86 (by decide) ?_
      exact J.cast (hk_56 trivial) (by rw [eg_up _ i h0_56]) (by rfl) rfl
    · intro hI_56
      try dsimp only at hI_56 ⊢
      refine j_iload_n (pc := 56) C dX1_begin_56 1 rfl ?_
      refine j_aload_n (pc := 57) C dX1_begin_57 0 rfl ?_
      refine j_get (pc := 58) C (ref := "GrainSiloModel") (T := TX1) (N := 16) hin 0 rfl rfl 1 (by decide) (C.w 1 rfl) rfl rfl dX1_begin_58 ?_
      refine j_icmp_ge (pc := 61) C 89 dX1_begin_61 (by decide) ⟨by omega, by omega⟩ ⟨by omega, by omega⟩ (fun c_61 => ?_) (fun c_61 => absurd c_61 (by omega))
      refine j_iconst (pc := 89) C dX1_begin_89 ?_
      refine j_istore_n (pc := 90) C (lv' := [(0, .ref (h 0)), (1, .int (zI 0))]) dX1_begin_90 (by decide) [1, 0] rfl ?_
      refine J.cast (ws' := wN h c1 th L K Dm S lo hi su db dy li so sp (tl (eg (matA ini X L) L) lo hi su db 0) ke se) (lv' := [(0, .ref (h 0)), (1, .int (zI 0))]) ?_ (by rfl) (by rfl) rfl
      refine j_up (fun i : Int => wN h c1 th L K Dm S lo hi su db dy li so sp (tl (eg (matA ini X L) L) lo hi su db i) ke se) (fun i : Int => [(0, .ref (h 0)), (1, .int (zI i))]) (fun i : Int => True) 0 S (by omega) trivial ?_ ?_
      · intro i h0_91 h1_91 hI_91 hk_91
        try dsimp only at hI_91 hk_91 ⊢
        have w1 := Fok_tl hok (Fok_eg hf (Fok_ini hL hf X) L hL0 (Int.le_refl _)) i h0_91 (by omega)
        obtain ⟨s1, s2, s3, s4, s5, s6, s7⟩ := hs i h0_91 h1_91
        have e1 := zs_bnd hf (lo i) (hi i + 1) s1 (by omega) (by omega)
        refine j_iload_n (pc := 91) C dX1_begin_91 1 rfl ?_
        refine j_aload_n (pc := 92) C dX1_begin_92 0 rfl ?_
        refine j_get (pc := 93) C (ref := "GrainSiloModel") (T := TX1) (N := 16) hin 0 rfl rfl 4 (by decide) (C.w 4 rfl) rfl rfl dX1_begin_93 ?_
        refine j_icmp_ge (pc := 96) C 133 dX1_begin_96 (by decide) ⟨by omega, by omega⟩ ⟨by omega, by omega⟩ (fun c_96 => absurd c_96 (by omega)) (fun c_96 => ?_)
        refine j_aload_n (pc := 99) C dX1_begin_99 0 rfl ?_
        refine j_aload_n (pc := 100) C dX1_begin_100 0 rfl ?_
        refine j_get (pc := 101) C (ref := "GrainSiloModel") (T := TX1) (N := 16) hin 0 rfl rfl 5 (by decide) (C.w 5 rfl) rfl rfl dX1_begin_101 ?_
        refine j_iload_n (pc := 104) C dX1_begin_104 1 rfl ?_
        refine j_iald (pc := 105) C 3 0 rfl rfl (by omega) (by omega) (by decide) dX1_begin_105 ?_
        refine j_aload_n (pc := 106) C dX1_begin_106 0 rfl ?_
        refine j_get (pc := 107) C (ref := "GrainSiloModel") (T := TX1) (N := 16) hin 0 rfl rfl 6 (by decide) (C.w 6 rfl) rfl rfl dX1_begin_107 ?_
        refine j_iload_n (pc := 110) C dX1_begin_110 1 rfl ?_
        refine j_iald (pc := 111) C 4 0 rfl rfl (by omega) (by omega) (by decide) dX1_begin_111 ?_
        refine j_aload_n (pc := 112) C dX1_begin_112 0 rfl ?_
        refine j_get (pc := 113) C (ref := "GrainSiloModel") (T := TX1) (N := 16) hin 0 rfl rfl 7 (by decide) (C.w 7 rfl) rfl rfl dX1_begin_113 ?_
        refine j_iload_n (pc := 116) C dX1_begin_116 1 rfl ?_
        refine j_iald (pc := 117) C 5 0 rfl rfl (by omega) (by omega) (by decide) dX1_begin_117 ?_
        refine j_aload_n (pc := 118) C dX1_begin_118 0 rfl ?_
        refine j_get (pc := 119) C (ref := "GrainSiloModel") (T := TX1) (N := 16) hin 0 rfl rfl 8 (by decide) (C.w 8 rfl) rfl rfl dX1_begin_119 ?_
        refine j_iload_n (pc := 122) C dX1_begin_122 1 rfl ?_
        refine j_iald (pc := 123) C 6 0 rfl rfl (by omega) (by omega) (by decide) dX1_begin_123 ?_
        refine j_callV (pc := 124) C (As := [.int (zI (lo i)), .int (zI (hi i)), .int (zI (su i)), .int (zI (db i))]) (rest := []) (kX1_tell l D h c1 c2 c3 th L K Dm S lo hi su db dy li so sp (tl (eg (matA ini X L) L) lo hi su db i) ke se (lo i) (hi i) (su i) (db i) (by omega) (by omega) (by omega) ⟨by have := Fok_B hL hf w1 (lo i) (hi i + 1) (by omega) (by omega) (by omega) (by omega); omega, by have := Fok_B hL hf w1 (lo i) (hi i + 1) (by omega) (by omega) (by omega) (by omega); omega⟩ ⟨by have := Fok_B hL hf w1 (hi i + 1) (lo i) (by omega) (by omega) (by omega) (by omega); omega, by have := Fok_B hL hf w1 (hi i + 1) (lo i) (by omega) (by omega) (by omega) (by omega); omega⟩ ⟨by omega, by omega⟩ ⟨by omega, by omega⟩) (cwV 4 C.2.2.2.2.1 gX1_begin_X1_tell rfl rfl rfl (by decide +kernel) ⟨Nat.le_of_ble_eq_true rfl, Nat.le_of_ble_eq_true rfl⟩) 0 (ci := 1) rfl rfl rfl dX1_begin_124 rfl rfl (Nat.le_of_ble_eq_true rfl) (by decide) ?_
        refine j_iinc (pc := 127) C (lv' := [(0, .ref (h 0)), (1, .int (zI (i + 1)))]) dX1_begin_127 1 rfl (by decide) [1, 0] rfl ?_
        refine j_goto (pc := 130) C 91 dX1_begin_130 (by decide) ?_
        exact J.cast (hk_91 trivial) (by rw [tl_up _ _ _ _ _ i h0_91]) (by rfl) rfl
      · intro hI_91
        try dsimp only at hI_91 ⊢
        refine j_iload_n (pc := 91) C dX1_begin_91 1 rfl ?_
        refine j_aload_n (pc := 92) C dX1_begin_92 0 rfl ?_
        refine j_get (pc := 93) C (ref := "GrainSiloModel") (T := TX1) (N := 16) hin 0 rfl rfl 4 (by decide) (C.w 4 rfl) rfl rfl dX1_begin_93 ?_
        refine j_icmp_ge (pc := 96) C 133 dX1_begin_96 (by decide) ⟨by omega, by omega⟩ ⟨by omega, by omega⟩ (fun c_96 => ?_) (fun c_96 => absurd c_96 (by omega))
        exact j_vret (pc := 133) C hr dX1_begin_133 (by rfl) (by decide) (by decide)
set_option maxHeartbeats 4000000 in
set_option maxRecDepth 100000 in
theorem kX1_goOn (l : Launch) (D : va_G) (h : Nat → Nat) (c1 c2 c3 : ClassId) (th L : Int) (K Dm : Int → Int) (S : Int) (lo hi su db : Int → Int) (dy li so sp : Int) (X : Int → Int → Int) (ke se : Int → Int) (hL0 : 0 ≤ L) (hL : L ≤ 12) (hf : ∀ j, 0 ≤ j → j < L → 0 ≤ Dm j ∧ Dm j ≤ 40) (hF : Fok L Dm X) : cV l yX1_goOn wsX1_goOn ({ frames := 2, cells := 0, slots := 0, locals := 44 }) D (tyS c1 c2 c3) [.ref (h 0)] (wN h c1 th L K Dm S lo hi su db dy li so sp X ke se) (wN h c1 th L K Dm S lo hi su db dy li so sp (fw X L (L + 1)) ke se) 0 0 := by
  refine cV.of (cc := cX1_goOn) (maxL := 4) (by decide) rfl (lv := [(0, .ref (h 0))]) [0] rfl (Nat.le_of_ble_eq_true rfl) ?_
  intro p e s m args below meth c A C hr
  have C : GC p s m args meth c cX1_goOn 4 RX1 wsX1_goOn D (tyS c1 c2 c3) A := C
  have hin : ∀ w ∈ wsX10, w ∈ wsX1_goOn := fun _ h => List.mem_cons_of_mem _ (List.mem_append_right _ h)
  refine j_iconst (pc := 0) C dX1_goOn_0 ?_
  refine j_istore_n (pc := 1) C (lv' := [(0, .ref (h 0)), (1, .int (zI 0))]) dX1_goOn_1 (by decide) [1, 0] rfl ?_
  refine J.cast (ws' := wN h c1 th L K Dm S lo hi su db dy li so sp (fw X L 0) ke se) (lv' := [(0, .ref (h 0)), (1, .int (zI 0))]) ?_ (by rfl) (by rfl) rfl
  refine j_up (fun k : Int => wN h c1 th L K Dm S lo hi su db dy li so sp (fw X L k) ke se) (fun k : Int => [(0, .ref (h 0)), (1, .int (zI k))]) (fun k : Int => True) 0 (L + 1) (by omega) trivial ?_ ?_
  · intro k h0_2 h1_2 hI_2 hk_2
    try dsimp only at hI_2 hk_2 ⊢
    have w := Fok_fw hF k h0_2 (by omega)
    have wd := w.2 k h0_2 (by omega)
    refine j_iload_n (pc := 2) C dX1_goOn_2 1 rfl ?_
    refine j_aload_n (pc := 3) C dX1_goOn_3 0 rfl ?_
    refine j_get (pc := 4) C (ref := "GrainSiloModel") (T := TX1) (N := 16) hin 0 rfl rfl 1 (by decide) (C.w 1 rfl) rfl rfl dX1_goOn_4 ?_
    refine j_icmp_gt (pc := 7) C 77 dX1_goOn_7 (by decide) ⟨by omega, by omega⟩ ⟨by omega, by omega⟩ (fun c_7 => absurd c_7 (by omega)) (fun c_7 => ?_)
    refine j_iconst (pc := 10) C dX1_goOn_10 ?_
    refine j_istore_n (pc := 11) C (lv' := [(0, .ref (h 0)), (1, .int (zI k)), (2, .int (zI 0))]) dX1_goOn_11 (by decide) [1, 2, 0] rfl ?_
    refine J.cast (ws' := wN h c1 th L K Dm S lo hi su db dy li so sp (mat2 (fwg (fw X L k) k) (fw X L k) L 0 0) ke se) (lv' := [(0, .ref (h 0)), (1, .int (zI k)), (2, .int (zI 0))]) ?_ (by rw [mat2_0]) (by rfl) rfl
    refine j_up (fun i : Int => wN h c1 th L K Dm S lo hi su db dy li so sp (mat2 (fwg (fw X L k) k) (fw X L k) L i 0) ke se) (fun i : Int => [(0, .ref (h 0)), (1, .int (zI k)), (2, .int (zI i))]) (fun i : Int => True) 0 (L + 1) (by omega) trivial ?_ ?_
    · intro i h0_12 h1_12 hI_12 hk_12
      try dsimp only at hI_12 hk_12 ⊢
      refine j_iload_n (pc := 12) C dX1_goOn_12 2 rfl ?_
      refine j_aload_n (pc := 13) C dX1_goOn_13 0 rfl ?_
      refine j_get (pc := 14) C (ref := "GrainSiloModel") (T := TX1) (N := 16) hin 0 rfl rfl 1 (by decide) (C.w 1 rfl) rfl rfl dX1_goOn_14 ?_
      refine j_icmp_gt (pc := 17) C 71 dX1_goOn_17 (by decide) ⟨by omega, by omega⟩ ⟨by omega, by omega⟩ (fun c_17 => absurd c_17 (by omega)) (fun c_17 => ?_)
      refine j_iconst (pc := 20) C dX1_goOn_20 ?_
      refine j_istore_n (pc := 21) C (lv' := [(0, .ref (h 0)), (1, .int (zI k)), (2, .int (zI i)), (3, .int (zI 0))]) dX1_goOn_21 (by decide) [1, 2, 3, 0] rfl ?_
      refine J.cast (ws' := wN h c1 th L K Dm S lo hi su db dy li so sp (mat2 (fwg (fw X L k) k) (fw X L k) L i 0) ke se) (lv' := [(0, .ref (h 0)), (1, .int (zI k)), (2, .int (zI i)), (3, .int (zI 0))]) ?_ (by rfl) (by rfl) rfl
      refine j_up (fun j : Int => wN h c1 th L K Dm S lo hi su db dy li so sp (mat2 (fwg (fw X L k) k) (fw X L k) L i j) ke se) (fun j : Int => [(0, .ref (h 0)), (1, .int (zI k)), (2, .int (zI i)), (3, .int (zI j))]) (fun j : Int => True) 0 (L + 1) (by omega) trivial ?_ ?_
      · intro j h0_22 h1_22 hI_22 hk_22
        try dsimp only at hI_22 hk_22 ⊢
        have r1 : mat2 (fwg (fw X L k) k) (fw X L k) L i j i j = (fw X L k) i j := mat2_at _ _ _ _ _ h0_12 h0_22 (by omega)
        have r2 : mat2 (fwg (fw X L k) k) (fw X L k) L i j i k = (fw X L k) i k := mat2_eq _ _ _ _ _ _ _ (Int.min_eq_left (by omega))
        have r3 : mat2 (fwg (fw X L k) k) (fw X L k) L i j k j = (fw X L k) k j := mat2_eq _ _ _ _ _ _ _ (Int.min_eq_left (by omega))
        have q1 := Fok_B hL hf w i j h0_12 (by omega) h0_22 (by omega)
        have q2 := Fok_B hL hf w i k h0_12 (by omega) h0_2 (by omega)
        have q3 := Fok_B hL hf w k j h0_2 (by omega) h0_22 (by omega)
        refine j_iload_n (pc := 22) C dX1_goOn_22 3 rfl ?_
        refine j_aload_n (pc := 23) C dX1_goOn_23 0 rfl ?_
        refine j_get (pc := 24) C (ref := "GrainSiloModel") (T := TX1) (N := 16) hin 0 rfl rfl 1 (by decide) (C.w 1 rfl) rfl rfl dX1_goOn_24 ?_
        refine j_icmp_gt (pc := 27) C 65 dX1_goOn_27 (by decide) ⟨by omega, by omega⟩ ⟨by omega, by omega⟩ (fun c_27 => absurd c_27 (by omega)) (fun c_27 => ?_)
        refine j_aload_n (pc := 30) C dX1_goOn_30 0 rfl ?_
        refine j_iload_n (pc := 31) C dX1_goOn_31 2 rfl ?_
        refine j_iload_n (pc := 32) C dX1_goOn_32 3 rfl ?_
        refine j_aload_n (pc := 33) C dX1_goOn_33 0 rfl ?_
        refine j_get (pc := 34) C (ref := "GrainSiloModel") (T := TX1) (N := 16) hin 0 rfl rfl 13 (by decide) (C.w 2 rfl) rfl rfl dX1_goOn_34 ?_
        refine j_bipush (pc := 37) C dX1_goOn_37 (by decide +kernel) ?_
        refine j_iload_n (pc := 39) C dX1_goOn_39 2 rfl ?_
        refine j_imul (pc := 40) C dX1_goOn_40 ?_
        refine j_iload_n (pc := 41) C dX1_goOn_41 1 rfl ?_
        refine j_iadd (pc := 42) C dX1_goOn_42 ?_
        refine j_xald (pc := 43) C i k (by omega) (by omega) (by omega) (by omega) (by omega) 7 0 rfl rfl dX1_goOn_43 ?_
        refine j_aload_n (pc := 44) C dX1_goOn_44 0 rfl ?_
        refine j_get (pc := 45) C (ref := "GrainSiloModel") (T := TX1) (N := 16) hin 0 rfl rfl 13 (by decide) (C.w 2 rfl) rfl rfl dX1_goOn_45 ?_
        refine j_bipush (pc := 48) C dX1_goOn_48 (by decide +kernel) ?_
        refine j_iload_n (pc := 50) C dX1_goOn_50 1 rfl ?_
        refine j_imul (pc := 51) C dX1_goOn_51 ?_
        refine j_iload_n (pc := 52) C dX1_goOn_52 3 rfl ?_
        refine j_iadd (pc := 53) C dX1_goOn_53 ?_
        refine j_xald (pc := 54) C k j (by omega) (by omega) (by omega) (by omega) (by omega) 7 0 rfl rfl dX1_goOn_54 ?_
        refine j_iadd (pc := 55) C dX1_goOn_55 ?_
        refine j_callV (pc := 56) C (As := [.int (zI i), .int (zI j), .int (zI (((mat2 (fwg (fw X L k) k) (fw X L k) L i j) i k) + ((mat2 (fwg (fw X L k) k) (fw X L k) L i j) k j)))]) (rest := []) (kX1_bound l D h c1 c2 c3 th L K Dm S lo hi su db dy li so sp (mat2 (fwg (fw X L k) k) (fw X L k) L i j) ke se i j (((mat2 (fwg (fw X L k) k) (fw X L k) L i j) i k) + ((mat2 (fwg (fw X L k) k) (fw X L k) L i j) k j)) (by omega) (by omega) (by omega) (by omega) ⟨by omega, by omega⟩ ⟨by omega, by omega⟩) (cwV 3 C.2.2.2.2.1 gX1_goOn_X1_bound rfl rfl rfl (by decide +kernel) ⟨Nat.le_of_ble_eq_true rfl, Nat.le_of_ble_eq_true rfl⟩) 0 (ci := 1) rfl rfl rfl dX1_goOn_56 rfl rfl (Nat.le_of_ble_eq_true rfl) (by decide) ?_
        refine j_iinc (pc := 59) C (lv' := [(0, .ref (h 0)), (1, .int (zI k)), (2, .int (zI i)), (3, .int (zI (j + 1)))]) dX1_goOn_59 3 rfl (by decide) [1, 2, 3, 0] rfl ?_
        refine j_goto (pc := 62) C 22 dX1_goOn_62 (by decide) ?_
        exact J.cast (hk_22 trivial) (by (rw [mat2_up (fwg (fw X L k) k) (fw X L k) L i j h0_12 h0_22 (by omega), r2, r3]; unfold bnd; rw [r1]; try rfl)) (by rfl) rfl
      · intro hI_22
        try dsimp only at hI_22 ⊢
        refine j_iload_n (pc := 22) C dX1_goOn_22 3 rfl ?_
        refine j_aload_n (pc := 23) C dX1_goOn_23 0 rfl ?_
        refine j_get (pc := 24) C (ref := "GrainSiloModel") (T := TX1) (N := 16) hin 0 rfl rfl 1 (by decide) (C.w 1 rfl) rfl rfl dX1_goOn_24 ?_
        refine j_icmp_gt (pc := 27) C 65 dX1_goOn_27 (by decide) ⟨by omega, by omega⟩ ⟨by omega, by omega⟩ (fun c_27 => ?_) (fun c_27 => absurd c_27 (by omega))
        refine j_iinc (pc := 65) C (lv' := [(0, .ref (h 0)), (1, .int (zI k)), (2, .int (zI (i + 1))), (3, .int (zI ((L + 1))))]) dX1_goOn_65 2 rfl (by decide) [1, 2, 0, 3] rfl ?_
        refine j_goto (pc := 68) C 12 dX1_goOn_68 (by decide) ?_
        refine J.pick (lv' := [(0, .ref (h 0)), (1, .int (zI k)), (2, .int (zI (i + 1)))]) [0, 1, 2] rfl ?_
        exact J.cast (hk_12 trivial) (by rw [mat2_row (fwg (fw X L k) k) (fw X L k) L i h0_12]) (by rfl) rfl
    · intro hI_12
      try dsimp only at hI_12 ⊢
      refine j_iload_n (pc := 12) C dX1_goOn_12 2 rfl ?_
      refine j_aload_n (pc := 13) C dX1_goOn_13 0 rfl ?_
      refine j_get (pc := 14) C (ref := "GrainSiloModel") (T := TX1) (N := 16) hin 0 rfl rfl 1 (by decide) (C.w 1 rfl) rfl rfl dX1_goOn_14 ?_
      refine j_icmp_gt (pc := 17) C 71 dX1_goOn_17 (by decide) ⟨by omega, by omega⟩ ⟨by omega, by omega⟩ (fun c_17 => ?_) (fun c_17 => absurd c_17 (by omega))
      refine j_iinc (pc := 71) C (lv' := [(0, .ref (h 0)), (1, .int (zI (k + 1))), (2, .int (zI ((L + 1))))]) dX1_goOn_71 1 rfl (by decide) [1, 0, 2] rfl ?_
      refine j_goto (pc := 74) C 2 dX1_goOn_74 (by decide) ?_
      refine J.pick (lv' := [(0, .ref (h 0)), (1, .int (zI (k + 1)))]) [0, 1] rfl ?_
      exact J.cast (hk_2 trivial) (by (rw [fw_up X L k h0_2]; rfl)) (by rfl) rfl
  · intro hI_2
    try dsimp only at hI_2 ⊢
    refine j_iload_n (pc := 2) C dX1_goOn_2 1 rfl ?_
    refine j_aload_n (pc := 3) C dX1_goOn_3 0 rfl ?_
    refine j_get (pc := 4) C (ref := "GrainSiloModel") (T := TX1) (N := 16) hin 0 rfl rfl 1 (by decide) (C.w 1 rfl) rfl rfl dX1_goOn_4 ?_
    refine j_icmp_gt (pc := 7) C 77 dX1_goOn_7 (by decide) ⟨by omega, by omega⟩ ⟨by omega, by omega⟩ (fun c_7 => ?_) (fun c_7 => absurd c_7 (by omega))
    exact j_vret (pc := 77) C hr dX1_goOn_77 (by rfl) (by decide) (by decide)
set_option maxHeartbeats 4000000 in
set_option maxRecDepth 100000 in
theorem kX1_reckon (l : Launch) (D : va_G) (h : Nat → Nat) (c1 c2 c3 : ClassId) (th L : Int) (K Dm : Int → Int) (S : Int) (lo hi su db : Int → Int) (dy li so sp : Int) (X : Int → Int → Int) (ke se : Int → Int) (hok : okS Dm L lo hi su db S) : cV l yX1_reckon wsX1_reckon ({ frames := 4, cells := 0, slots := 0, locals := 90 }) D (tyS c1 c2 c3) [.ref (h 0)] (wN h c1 th L K Dm S lo hi su db dy li so sp X ke se) (wN h c1 th L K Dm S lo hi su db dy li so sp (fw (bgn X L lo hi su db S) L (L + 1)) ke se) 0 0 := by
  refine cV.of (cc := cX1_reckon) (maxL := 1) (by decide) rfl (lv := [(0, .ref (h 0))]) [0] rfl (Nat.le_of_ble_eq_true rfl) ?_
  intro p e s m args below meth c A C hr
  have C : GC p s m args meth c cX1_reckon 1 RX1 wsX1_reckon D (tyS c1 c2 c3) A := C
  have hin : ∀ w ∈ wsX10, w ∈ wsX1_reckon := fun _ h => List.mem_cons_of_mem _ (List.mem_append_right _ h)
  obtain ⟨⟨hL0, hL⟩, ⟨hS0, hS⟩, hf, hs⟩ := id hok
  refine j_aload_n (pc := 0) C dX1_reckon_0 0 rfl ?_
  refine j_callV (pc := 1) C (As := []) (rest := []) (kX1_begin l D h c1 c2 c3 th L K Dm S lo hi su db dy li so sp X ke se  hok) (cwV 0 C.2.2.2.2.1 gX1_reckon_X1_begin rfl rfl rfl (by decide +kernel) ⟨Nat.le_of_ble_eq_true rfl, Nat.le_of_ble_eq_true rfl⟩) 0 (ci := 1) rfl rfl rfl dX1_reckon_1 rfl rfl (Nat.le_of_ble_eq_true rfl) (by decide) ?_
  refine j_aload_n (pc := 4) C dX1_reckon_4 0 rfl ?_
  refine j_callV (pc := 5) C (As := []) (rest := []) (kX1_goOn l D h c1 c2 c3 th L K Dm S lo hi su db dy li so sp (bgn X L lo hi su db S) ke se  (by omega) (by omega) hf (Fok_bgn hok X)) (cwV 0 C.2.2.2.2.1 gX1_reckon_X1_goOn rfl rfl rfl (by decide +kernel) ⟨Nat.le_of_ble_eq_true rfl, Nat.le_of_ble_eq_true rfl⟩) 0 (ci := 1) rfl rfl rfl dX1_reckon_5 rfl rfl (Nat.le_of_ble_eq_true rfl) (by decide) ?_
  exact j_vret (pc := 8) C hr dX1_reckon_8 (by rfl) (by decide) (by decide)
set_option maxHeartbeats 4000000 in
set_option maxRecDepth 100000 in
theorem kX1_least (l : Launch) (D : va_G) (h : Nat → Nat) (c1 c2 c3 : ClassId) (th L : Int) (K Dm : Int → Int) (S : Int) (lo hi su db : Int → Int) (dy li so sp : Int) (X : Int → Int → Int) (ke se : Int → Int) (a b : Int) (h0 : 0 ≤ a) (h1 : a < 13) (h2 : -1 ≤ b) (h3 : b < 12) : cI l yX1_least wsX1_least ({ frames := 0, cells := 0, slots := 0, locals := 0 }) D (tyS c1 c2 c3) [.ref (h 0), .int (zI a), .int (zI b)] (wN h c1 th L K Dm S lo hi su db dy li so sp X ke se) (wN h c1 th L K Dm S lo hi su db dy li so sp X ke se) (zI (-(X (b + 1) a))) 0 0 := by
  refine cI.of (cc := cX1_least) (maxL := 3) (ret := .int) (by decide) rfl (lv := [(0, .ref (h 0)), (1, .int (zI a)), (2, .int (zI b))]) [0, 1, 2] rfl (Nat.le_of_ble_eq_true rfl) ?_
  intro p e s m args below meth c A C hr
  have C : GC p s m args meth c cX1_least 3 RX1 wsX1_least D (tyS c1 c2 c3) A := C
  have hin : ∀ w ∈ wsX10, w ∈ wsX1_least := fun _ h => List.mem_cons_of_mem _ (List.mem_append_right _ h)
  refine j_aload_n (pc := 0) C dX1_least_0 0 rfl ?_
  refine j_get (pc := 1) C (ref := "GrainSiloModel") (T := TX1) (N := 16) hin 0 rfl rfl 13 (by decide) (C.w 1 rfl) rfl rfl dX1_least_1 ?_
  refine j_bipush (pc := 4) C dX1_least_4 (by decide +kernel) ?_
  refine j_iload_n (pc := 6) C dX1_least_6 2 rfl ?_
  refine j_iconst (pc := 7) C dX1_least_7 ?_
  refine j_iadd (pc := 8) C dX1_least_8 ?_
  refine j_imul (pc := 9) C dX1_least_9 ?_
  refine j_iload_n (pc := 10) C dX1_least_10 1 rfl ?_
  refine j_iadd (pc := 11) C dX1_least_11 ?_
  refine j_xald (pc := 12) C ((b + 1)) a (by omega) (by omega) (by omega) (by omega) (by omega) 7 0 rfl rfl dX1_least_12 ?_
  refine j_ineg (pc := 13) C dX1_least_13 ?_
  exact j_iret (pc := 14) C hr dX1_least_14 (by rfl) (by rfl) (by decide) (by decide)
set_option maxHeartbeats 4000000 in
set_option maxRecDepth 100000 in
theorem kX1_greatest (l : Launch) (D : va_G) (h : Nat → Nat) (c1 c2 c3 : ClassId) (th L : Int) (K Dm : Int → Int) (S : Int) (lo hi su db : Int → Int) (dy li so sp : Int) (X : Int → Int → Int) (ke se : Int → Int) (a b : Int) (h0 : 0 ≤ a) (h1 : a < 13) (h2 : -1 ≤ b) (h3 : b < 12) : cI l yX1_greatest wsX1_greatest ({ frames := 0, cells := 0, slots := 0, locals := 0 }) D (tyS c1 c2 c3) [.ref (h 0), .int (zI a), .int (zI b)] (wN h c1 th L K Dm S lo hi su db dy li so sp X ke se) (wN h c1 th L K Dm S lo hi su db dy li so sp X ke se) (zI (X a (b + 1))) 0 0 := by
  refine cI.of (cc := cX1_greatest) (maxL := 3) (ret := .int) (by decide) rfl (lv := [(0, .ref (h 0)), (1, .int (zI a)), (2, .int (zI b))]) [0, 1, 2] rfl (Nat.le_of_ble_eq_true rfl) ?_
  intro p e s m args below meth c A C hr
  have C : GC p s m args meth c cX1_greatest 3 RX1 wsX1_greatest D (tyS c1 c2 c3) A := C
  have hin : ∀ w ∈ wsX10, w ∈ wsX1_greatest := fun _ h => List.mem_cons_of_mem _ (List.mem_append_right _ h)
  refine j_aload_n (pc := 0) C dX1_greatest_0 0 rfl ?_
  refine j_get (pc := 1) C (ref := "GrainSiloModel") (T := TX1) (N := 16) hin 0 rfl rfl 13 (by decide) (C.w 1 rfl) rfl rfl dX1_greatest_1 ?_
  refine j_bipush (pc := 4) C dX1_greatest_4 (by decide +kernel) ?_
  refine j_iload_n (pc := 6) C dX1_greatest_6 1 rfl ?_
  refine j_imul (pc := 7) C dX1_greatest_7 ?_
  refine j_iload_n (pc := 8) C dX1_greatest_8 2 rfl ?_
  refine j_iadd (pc := 9) C dX1_greatest_9 ?_
  refine j_iconst (pc := 10) C dX1_greatest_10 ?_
  refine j_iadd (pc := 11) C dX1_greatest_11 ?_
  refine j_xald (pc := 12) C a (b + 1) (by omega) (by omega) (by omega) (by omega) (by omega) 7 0 rfl rfl dX1_greatest_12 ?_
  exact j_iret (pc := 13) C hr dX1_greatest_13 (by rfl) (by rfl) (by decide) (by decide)
set_option maxHeartbeats 4000000 in
set_option maxRecDepth 100000 in
theorem kX1_allDoubt (l : Launch) (D : va_G) (h : Nat → Nat) (c1 c2 c3 : ClassId) (th L : Int) (K Dm : Int → Int) (S : Int) (lo hi su db : Int → Int) (dy li so sp : Int) (X : Int → Int → Int) (ke se : Int → Int) (hL0 : 0 ≤ L) (hL : L ≤ 12) : cI l yX1_allDoubt wsX1_allDoubt ({ frames := 1, cells := 0, slots := 0, locals := 22 }) D (tyS c1 c2 c3) [.ref (h 0)] (wN h c1 th L K Dm S lo hi su db dy li so sp X ke se) (wN h c1 th L K Dm S lo hi su db dy li so sp X ke se) (zI (dNow X L)) 0 0 := by
  refine cI.of (cc := cX1_allDoubt) (maxL := 3) (ret := .int) (by decide) rfl (lv := [(0, .ref (h 0))]) [0] rfl (Nat.le_of_ble_eq_true rfl) ?_
  intro p e s m args below meth c A C hr
  have C : GC p s m args meth c cX1_allDoubt 3 RX1 wsX1_allDoubt D (tyS c1 c2 c3) A := C
  have hin : ∀ w ∈ wsX10, w ∈ wsX1_allDoubt := fun _ h => List.mem_cons_of_mem _ (List.mem_append_right _ h)
  refine j_iconst (pc := 0) C dX1_allDoubt_0 ?_
  refine j_istore_n (pc := 1) C (lv' := [(0, .ref (h 0)), (1, .int (zI 0))]) dX1_allDoubt_1 (by decide) [1, 0] rfl ?_
  refine j_iconst (pc := 2) C dX1_allDoubt_2 ?_
  refine j_istore_n (pc := 3) C (lv' := [(0, .ref (h 0)), (1, .int (zI 0)), (2, .int (zI 0))]) dX1_allDoubt_3 (by decide) [1, 2, 0] rfl ?_
  refine J.cast (ws' := wN h c1 th L K Dm S lo hi su db dy li so sp X ke se) (lv' := [(0, .ref (h 0)), (1, .int (zI (dNow X 0))), (2, .int (zI 0))]) ?_ (by rfl) (by rw [show dNow X 0 = 0 from zs_0 _ 0]) rfl
  refine j_up (fun i : Int => wN h c1 th L K Dm S lo hi su db dy li so sp X ke se) (fun i : Int => [(0, .ref (h 0)), (1, .int (zI (dNow X i))), (2, .int (zI i))]) (fun i : Int => True) 0 L (by omega) trivial ?_ ?_
  · intro i h0_4 h1_4 hI_4 hk_4
    try dsimp only at hI_4 hk_4 ⊢
    refine j_iload_n (pc := 4) C dX1_allDoubt_4 2 rfl ?_
    refine j_aload_n (pc := 5) C dX1_allDoubt_5 0 rfl ?_
    refine j_get (pc := 6) C (ref := "GrainSiloModel") (T := TX1) (N := 16) hin 0 rfl rfl 1 (by decide) (C.w 1 rfl) rfl rfl dX1_allDoubt_6 ?_
    refine j_icmp_ge (pc := 9) C 34 dX1_allDoubt_9 (by decide) ⟨by omega, by omega⟩ ⟨by omega, by omega⟩ (fun c_9 => absurd c_9 (by omega)) (fun c_9 => ?_)
    refine j_iload_n (pc := 12) C dX1_allDoubt_12 1 rfl ?_
    refine j_aload_n (pc := 13) C dX1_allDoubt_13 0 rfl ?_
    refine j_iload_n (pc := 14) C dX1_allDoubt_14 2 rfl ?_
    refine j_iload_n (pc := 15) C dX1_allDoubt_15 2 rfl ?_
    refine j_callI (pc := 16) C (As := [.int (zI i), .int (zI i)]) (rest := [.int (zI (dNow X i))]) (kX1_greatest l D h c1 c2 c3 th L K Dm S lo hi su db dy li so sp X ke se i i (by omega) (by omega) (by omega) (by omega)) (cwV 2 C.2.2.2.2.1 gX1_allDoubt_X1_greatest rfl rfl rfl (by decide +kernel) ⟨Nat.le_of_ble_eq_true rfl, Nat.le_of_ble_eq_true rfl⟩) 0 (ci := 1) rfl rfl rfl dX1_allDoubt_16 rfl rfl (Nat.le_of_ble_eq_true rfl) (by decide) ?_
    refine j_aload_n (pc := 19) C dX1_allDoubt_19 0 rfl ?_
    refine j_iload_n (pc := 20) C dX1_allDoubt_20 2 rfl ?_
    refine j_iload_n (pc := 21) C dX1_allDoubt_21 2 rfl ?_
    refine j_callI (pc := 22) C (As := [.int (zI i), .int (zI i)]) (rest := [.int (zI (X i (i + 1))), .int (zI (dNow X i))]) (kX1_least l D h c1 c2 c3 th L K Dm S lo hi su db dy li so sp X ke se i i (by omega) (by omega) (by omega) (by omega)) (cwV 2 C.2.2.2.2.1 gX1_allDoubt_X1_least rfl rfl rfl (by decide +kernel) ⟨Nat.le_of_ble_eq_true rfl, Nat.le_of_ble_eq_true rfl⟩) 0 (ci := 1) rfl rfl rfl dX1_allDoubt_22 rfl rfl (Nat.le_of_ble_eq_true rfl) (by decide) ?_
    refine j_isub (pc := 25) C dX1_allDoubt_25 ?_
    refine j_iadd (pc := 26) C dX1_allDoubt_26 ?_
    refine j_istore_n (pc := 27) C (lv' := [(0, .ref (h 0)), (1, .int (zI ((dNow X i) + ((X i (i + 1)) - (-(X (i + 1) i)))))), (2, .int (zI i))]) dX1_allDoubt_27 (by decide) [1, 0, 2] rfl ?_
    refine j_iinc (pc := 28) C (lv' := [(0, .ref (h 0)), (1, .int (zI ((dNow X i) + ((X i (i + 1)) - (-(X (i + 1) i)))))), (2, .int (zI (i + 1)))]) dX1_allDoubt_28 2 rfl (by decide) [1, 2, 0] rfl ?_
    refine j_goto (pc := 31) C 4 dX1_allDoubt_31 (by decide) ?_
    exact J.cast (hk_4 trivial) (by rfl) (by rw [show dNow X (i + 1) = dNow X i + (X i (i + 1) - -(X (i + 1) i)) from zs_up _ 0 i h0_4]) rfl
  · intro hI_4
    try dsimp only at hI_4 ⊢
    refine j_iload_n (pc := 4) C dX1_allDoubt_4 2 rfl ?_
    refine j_aload_n (pc := 5) C dX1_allDoubt_5 0 rfl ?_
    refine j_get (pc := 6) C (ref := "GrainSiloModel") (T := TX1) (N := 16) hin 0 rfl rfl 1 (by decide) (C.w 1 rfl) rfl rfl dX1_allDoubt_6 ?_
    refine j_icmp_ge (pc := 9) C 34 dX1_allDoubt_9 (by decide) ⟨by omega, by omega⟩ ⟨by omega, by omega⟩ (fun c_9 => ?_) (fun c_9 => absurd c_9 (by omega))
    refine j_iload_n (pc := 34) C dX1_allDoubt_34 1 rfl ?_
    exact j_iret (pc := 35) C hr dX1_allDoubt_35 (by rfl) (by rfl) (by decide) (by decide)
set_option maxHeartbeats 4000000 in
set_option maxRecDepth 100000 in
theorem kX1_added (l : Launch) (D : va_G) (h : Nat → Nat) (c1 c2 c3 : ClassId) (th L : Int) (K Dm : Int → Int) (S : Int) (lo hi su db : Int → Int) (dy li so sp : Int) (X : Int → Int → Int) (ke se : Int → Int) (a b : Int) (h0 : 0 ≤ a) (h1 : a ≤ b + 1) (h2 : b < 12) : cI l yX1_added wsX1_added ({ frames := 0, cells := 0, slots := 0, locals := 0 }) D (tyS c1 c2 c3) [.ref (h 0), .int (zI a), .int (zI b)] (wN h c1 th L K Dm S lo hi su db dy li so sp X ke se) (wN h c1 th L K Dm S lo hi su db dy li so sp X ke se) (zI (zs Dm a (b + 1))) 0 0 := by
  refine cI.of (cc := cX1_added) (maxL := 5) (ret := .int) (by decide) rfl (lv := [(0, .ref (h 0)), (1, .int (zI a)), (2, .int (zI b))]) [0, 1, 2] rfl (Nat.le_of_ble_eq_true rfl) ?_
  intro p e s m args below meth c A C hr
  have C : GC p s m args meth c cX1_added 5 RX1 wsX1_added D (tyS c1 c2 c3) A := C
  have hin : ∀ w ∈ wsX10, w ∈ wsX1_added := fun _ h => List.mem_cons_of_mem _ (List.mem_append_right _ h)
  refine j_iconst (pc := 0) C dX1_added_0 ?_
  refine j_istore_n (pc := 1) C (lv' := [(0, .ref (h 0)), (1, .int (zI a)), (2, .int (zI b)), (3, .int (zI 0))]) dX1_added_1 (by decide) [1, 2, 3, 0] rfl ?_
  refine j_iload_n (pc := 2) C dX1_added_2 1 rfl ?_
  refine j_istore (pc := 3) C (lv' := [(0, .ref (h 0)), (1, .int (zI a)), (2, .int (zI b)), (3, .int (zI 0)), (4, .int (zI a))]) dX1_added_3 (by decide) [1, 2, 3, 4, 0] rfl ?_
  refine J.cast (ws' := wN h c1 th L K Dm S lo hi su db dy li so sp X ke se) (lv' := [(0, .ref (h 0)), (1, .int (zI a)), (2, .int (zI b)), (3, .int (zI (zs Dm a a))), (4, .int (zI a))]) ?_ (by rfl) (by rw [zs_0]) rfl
  refine j_up (fun i : Int => wN h c1 th L K Dm S lo hi su db dy li so sp X ke se) (fun i : Int => [(0, .ref (h 0)), (1, .int (zI a)), (2, .int (zI b)), (3, .int (zI (zs Dm a i))), (4, .int (zI i))]) (fun i : Int => True) a (b + 1) (by omega) trivial ?_ ?_
  · intro i h0_5 h1_5 hI_5 hk_5
    try dsimp only at hI_5 hk_5 ⊢
    refine j_iload (pc := 5) C dX1_added_5 4 rfl ?_
    refine j_iload_n (pc := 7) C dX1_added_7 2 rfl ?_
    refine j_icmp_gt (pc := 8) C 27 dX1_added_8 (by decide) ⟨by omega, by omega⟩ ⟨by omega, by omega⟩ (fun c_8 => absurd c_8 (by omega)) (fun c_8 => ?_)
    refine j_iload_n (pc := 11) C dX1_added_11 3 rfl ?_
    refine j_aload_n (pc := 12) C dX1_added_12 0 rfl ?_
    refine j_get (pc := 13) C (ref := "GrainSiloModel") (T := TX1) (N := 16) hin 0 rfl rfl 3 (by decide) (C.w 1 rfl) rfl rfl dX1_added_13 ?_
    refine j_iload (pc := 16) C dX1_added_16 4 rfl ?_
    refine j_iald (pc := 18) C 2 0 rfl rfl (by omega) (by omega) (by decide) dX1_added_18 ?_
    refine j_iadd (pc := 19) C dX1_added_19 ?_
    refine j_istore_n (pc := 20) C (lv' := [(0, .ref (h 0)), (1, .int (zI a)), (2, .int (zI b)), (3, .int (zI ((zs Dm a i) + (Dm i)))), (4, .int (zI i))]) dX1_added_20 (by decide) [1, 2, 3, 0, 4] rfl ?_
    refine j_iinc (pc := 21) C (lv' := [(0, .ref (h 0)), (1, .int (zI a)), (2, .int (zI b)), (3, .int (zI ((zs Dm a i) + (Dm i)))), (4, .int (zI (i + 1)))]) dX1_added_21 4 rfl (by decide) [1, 2, 3, 4, 0] rfl ?_
    refine j_goto (pc := 24) C 5 dX1_added_24 (by decide) ?_
    exact J.cast (hk_5 trivial) (by rfl) (by rw [zs_up Dm a i (by omega)]) rfl
  · intro hI_5
    try dsimp only at hI_5 ⊢
    refine j_iload (pc := 5) C dX1_added_5 4 rfl ?_
    refine j_iload_n (pc := 7) C dX1_added_7 2 rfl ?_
    refine j_icmp_gt (pc := 8) C 27 dX1_added_8 (by decide) ⟨by omega, by omega⟩ ⟨by omega, by omega⟩ (fun c_8 => ?_) (fun c_8 => absurd c_8 (by omega))
    refine j_iload_n (pc := 27) C dX1_added_27 3 rfl ?_
    exact j_iret (pc := 28) C hr dX1_added_28 (by rfl) (by rfl) (by decide) (by decide)
set_option maxHeartbeats 4000000 in
set_option maxRecDepth 100000 in
theorem kX1_behind (l : Launch) (D : va_G) (h : Nat → Nat) (c1 c2 c3 : ClassId) (th L : Int) (K Dm : Int → Int) (S : Int) (lo hi su db : Int → Int) (dy li so sp : Int) (X : Int → Int → Int) (ke se : Int → Int) (a b : Int) (hok : okS Dm L lo hi su db S) (h0 : 0 ≤ a) (h1 : a ≤ b) (h2 : b < L) : cI l yX1_behind wsX1_behind ({ frames := 4, cells := 0, slots := 0, locals := 90 }) D (tyS c1 c2 c3) [.ref (h 0), .int (zI a), .int (zI b)] (wN h c1 th L K Dm S lo hi su db dy li so sp X ke se) (wN h c1 th L K Dm S lo hi su db dy li so sp (bhd X Dm L lo hi su db S a b) ke se) (zI (dNow (bhd X Dm L lo hi su db S a b) L)) 0 0 := by
  refine cI.of (cc := cX1_behind) (maxL := 3) (ret := .int) (by decide) rfl (lv := [(0, .ref (h 0)), (1, .int (zI a)), (2, .int (zI b))]) [0, 1, 2] rfl (Nat.le_of_ble_eq_true rfl) ?_
  intro p e s m args below meth c A C hr
  have C : GC p s m args meth c cX1_behind 3 RX1 wsX1_behind D (tyS c1 c2 c3) A := C
  have hin : ∀ w ∈ wsX10, w ∈ wsX1_behind := fun _ h => List.mem_cons_of_mem _ (List.mem_append_right _ h)
  obtain ⟨⟨hL0, hL⟩, ⟨hS0, hS⟩, hf, hs⟩ := id hok
  have e1 := zs_bnd hf a (b + 1) h0 (by omega) (by omega)
  have w1 := Fok_bgn hok X
  refine j_aload_n (pc := 0) C dX1_behind_0 0 rfl ?_
  refine j_callV (pc := 1) C (As := []) (rest := []) (kX1_begin l D h c1 c2 c3 th L K Dm S lo hi su db dy li so sp X ke se  hok) (cwV 0 C.2.2.2.2.1 gX1_behind_X1_begin rfl rfl rfl (by decide +kernel) ⟨Nat.le_of_ble_eq_true rfl, Nat.le_of_ble_eq_true rfl⟩) 0 (ci := 1) rfl rfl rfl dX1_behind_1 rfl rfl (Nat.le_of_ble_eq_true rfl) (by decide) ?_
  refine j_aload_n (pc := 4) C dX1_behind_4 0 rfl ?_
  refine j_iload_n (pc := 5) C dX1_behind_5 1 rfl ?_
  refine j_iload_n (pc := 6) C dX1_behind_6 2 rfl ?_
  refine j_aload_n (pc := 7) C dX1_behind_7 0 rfl ?_
  refine j_iload_n (pc := 8) C dX1_behind_8 1 rfl ?_
  refine j_iload_n (pc := 9) C dX1_behind_9 2 rfl ?_
  refine j_callI (pc := 10) C (As := [.int (zI a), .int (zI b)]) (rest := [.int (zI b), .int (zI a), .ref (h 0)]) (kX1_added l D h c1 c2 c3 th L K Dm S lo hi su db dy li so sp (bgn X L lo hi su db S) ke se a b (by omega) (by omega) (by omega)) (cwV 2 C.2.2.2.2.1 gX1_behind_X1_added rfl rfl rfl (by decide +kernel) ⟨Nat.le_of_ble_eq_true rfl, Nat.le_of_ble_eq_true rfl⟩) 0 (ci := 1) rfl rfl rfl dX1_behind_10 rfl rfl (Nat.le_of_ble_eq_true rfl) (by decide) ?_
  refine j_iconst (pc := 13) C dX1_behind_13 ?_
  refine j_callV (pc := 14) C (As := [.int (zI a), .int (zI b), .int (zI (zs Dm a (b + 1))), .int (zI 0)]) (rest := []) (kX1_tell l D h c1 c2 c3 th L K Dm S lo hi su db dy li so sp (bgn X L lo hi su db S) ke se a b (zs Dm a (b + 1)) 0 (by omega) (by omega) (by omega) ⟨by have := Fok_B hL hf w1 a (b + 1) (by omega) (by omega) (by omega) (by omega); omega, by have := Fok_B hL hf w1 a (b + 1) (by omega) (by omega) (by omega) (by omega); omega⟩ ⟨by have := Fok_B hL hf w1 (b + 1) a (by omega) (by omega) (by omega) (by omega); omega, by have := Fok_B hL hf w1 (b + 1) a (by omega) (by omega) (by omega) (by omega); omega⟩ ⟨by omega, by omega⟩ ⟨by omega, by omega⟩) (cwV 4 C.2.2.2.2.1 gX1_behind_X1_tell rfl rfl rfl (by decide +kernel) ⟨Nat.le_of_ble_eq_true rfl, Nat.le_of_ble_eq_true rfl⟩) 0 (ci := 1) rfl rfl rfl dX1_behind_14 rfl rfl (Nat.le_of_ble_eq_true rfl) (by decide) ?_
  refine j_aload_n (pc := 17) C dX1_behind_17 0 rfl ?_
  refine j_callV (pc := 18) C (As := []) (rest := []) (kX1_goOn l D h c1 c2 c3 th L K Dm S lo hi su db dy li so sp (tel (bgn X L lo hi su db S) a b (zs Dm a (b + 1)) 0) ke se  (by omega) (by omega) hf (Fok_tel w1 a b _ 0 h0 h1 (by omega) (by omega))) (cwV 0 C.2.2.2.2.1 gX1_behind_X1_goOn rfl rfl rfl (by decide +kernel) ⟨Nat.le_of_ble_eq_true rfl, Nat.le_of_ble_eq_true rfl⟩) 0 (ci := 1) rfl rfl rfl dX1_behind_18 rfl rfl (Nat.le_of_ble_eq_true rfl) (by decide) ?_
  refine j_aload_n (pc := 21) C dX1_behind_21 0 rfl ?_
  refine j_callI (pc := 22) C (As := []) (rest := []) (kX1_allDoubt l D h c1 c2 c3 th L K Dm S lo hi su db dy li so sp (fw (tel (bgn X L lo hi su db S) a b (zs Dm a (b + 1)) 0) L (L + 1)) ke se  (by omega) (by omega)) (cwV 0 C.2.2.2.2.1 gX1_behind_X1_allDoubt rfl rfl rfl (by decide +kernel) ⟨Nat.le_of_ble_eq_true rfl, Nat.le_of_ble_eq_true rfl⟩) 0 (ci := 1) rfl rfl rfl dX1_behind_22 rfl rfl (Nat.le_of_ble_eq_true rfl) (by decide) ?_
  exact j_iret (pc := 25) C hr dX1_behind_25 (by rfl) (by rfl) (by decide) (by decide)
set_option maxHeartbeats 4000000 in
set_option maxRecDepth 100000 in
theorem kX1_drop (l : Launch) (D : va_G) (h : Nat → Nat) (c1 c2 c3 : ClassId) (th L : Int) (K Dm : Int → Int) (S : Int) (lo hi su db : Int → Int) (dy li so sp : Int) (X : Int → Int → Int) (ke se : Int → Int) (a : Int) (h0 : 0 ≤ a) (h1 : a < S) (h2 : S ≤ 16) : cV l yX1_drop wsX1_drop ({ frames := 0, cells := 0, slots := 0, locals := 0 }) D (tyS c1 c2 c3) [.ref (h 0), .int (zI a)] (wN h c1 th L K Dm S lo hi su db dy li so sp X ke se) (wN h c1 th L K Dm (S - 1) (shA lo a (S - 1 + 1)) (shA hi a (S - 1 + 1)) (shA su a (S - 1 + 1)) (shA db a (S - 1 + 1)) dy li so sp X ke se) 0 0 := by
  refine cV.of (cc := cX1_drop) (maxL := 3) (by decide) rfl (lv := [(0, .ref (h 0)), (1, .int (zI a))]) [0, 1] rfl (Nat.le_of_ble_eq_true rfl) ?_
  intro p e s m args below meth c A C hr
  have C : GC p s m args meth c cX1_drop 3 RX1 wsX1_drop D (tyS c1 c2 c3) A := C
  have hin : ∀ w ∈ wsX10, w ∈ wsX1_drop := fun _ h => List.mem_cons_of_mem _ (List.mem_append_right _ h)
  refine j_aload_n (pc := 0) C dX1_drop_0 0 rfl ?_
  refine j_dup (pc := 1) C dX1_drop_1 rfl ?_
  refine j_get (pc := 2) C (ref := "GrainSiloModel") (T := TX1) (N := 16) hin 0 rfl rfl 4 (by decide) (C.w 1 rfl) rfl rfl dX1_drop_2 ?_
  refine j_iconst (pc := 5) C dX1_drop_5 ?_
  refine j_isub (pc := 6) C dX1_drop_6 ?_
  refine j_put (pc := 7) C (ref := "GrainSiloModel") (T := TX1) (N := 16) (ws' := wN h c1 th L K Dm (S - 1) lo hi su db dy li so sp X ke se) hin tyX1 tyX1_ok nmX1 0 rfl rfl 4 (by decide) (C.w 1 rfl) rfl rfl (by decide +kernel) (Nat.le_of_ble_eq_true rfl) rfl dX1_drop_7 ?_
  refine j_iload_n (pc := 10) C dX1_drop_10 1 rfl ?_
  refine j_istore_n (pc := 11) C (lv' := [(0, .ref (h 0)), (1, .int (zI a)), (2, .int (zI a))]) dX1_drop_11 (by decide) [1, 2, 0] rfl ?_
  refine J.cast (ws' := wN h c1 th L K Dm (S - 1) (shA lo a (a + 1)) (shA hi a (a + 1)) (shA su a (a + 1)) (shA db a (a + 1)) dy li so sp X ke se) (lv' := [(0, .ref (h 0)), (1, .int (zI a)), (2, .int (zI a))]) ?_ (by rw [shA_0, shA_0, shA_0, shA_0]) (by rfl) rfl
  refine j_up (fun i : Int => wN h c1 th L K Dm (S - 1) (shA lo a (i + 1)) (shA hi a (i + 1)) (shA su a (i + 1)) (shA db a (i + 1)) dy li so sp X ke se) (fun i : Int => [(0, .ref (h 0)), (1, .int (zI a)), (2, .int (zI i))]) (fun i : Int => True) a (S - 1) (by omega) trivial ?_ ?_
  · intro i h0_12 h1_12 hI_12 hk_12
    try dsimp only at hI_12 hk_12 ⊢
    refine j_iload_n (pc := 12) C dX1_drop_12 2 rfl ?_
    refine j_aload_n (pc := 13) C dX1_drop_13 0 rfl ?_
    refine j_get (pc := 14) C (ref := "GrainSiloModel") (T := TX1) (N := 16) hin 0 rfl rfl 4 (by decide) (C.w 1 rfl) rfl rfl dX1_drop_14 ?_
    refine j_icmp_ge (pc := 17) C 82 dX1_drop_17 (by decide) ⟨by omega, by omega⟩ ⟨by omega, by omega⟩ (fun c_17 => absurd c_17 (by omega)) (fun c_17 => ?_)
    refine j_aload_n (pc := 20) C dX1_drop_20 0 rfl ?_
    refine j_get (pc := 21) C (ref := "GrainSiloModel") (T := TX1) (N := 16) hin 0 rfl rfl 5 (by decide) (C.w 2 rfl) rfl rfl dX1_drop_21 ?_
    refine j_iload_n (pc := 24) C dX1_drop_24 2 rfl ?_
    refine j_aload_n (pc := 25) C dX1_drop_25 0 rfl ?_
    refine j_get (pc := 26) C (ref := "GrainSiloModel") (T := TX1) (N := 16) hin 0 rfl rfl 5 (by decide) (C.w 2 rfl) rfl rfl dX1_drop_26 ?_
    refine j_iload_n (pc := 29) C dX1_drop_29 2 rfl ?_
    refine j_iconst (pc := 30) C dX1_drop_30 ?_
    refine j_iadd (pc := 31) C dX1_drop_31 ?_
    refine j_iald (pc := 32) C 3 0 rfl rfl (by omega) (by omega) (by decide) dX1_drop_32 ?_
    refine j_iast (pc := 33) C 3 0 rfl rfl (by omega) (by omega) (by decide) (ws' := wN h c1 th L K Dm (S - 1) (upZ (shA lo a (i + 1)) i ((shA lo a (i + 1)) (i + 1))) (shA hi a (i + 1)) (shA su a (i + 1)) (shA db a (i + 1)) dy li so sp X ke se) rfl dX1_drop_33 ?_
    refine j_aload_n (pc := 34) C dX1_drop_34 0 rfl ?_
    refine j_get (pc := 35) C (ref := "GrainSiloModel") (T := TX1) (N := 16) hin 0 rfl rfl 6 (by decide) (C.w 3 rfl) rfl rfl dX1_drop_35 ?_
    refine j_iload_n (pc := 38) C dX1_drop_38 2 rfl ?_
    refine j_aload_n (pc := 39) C dX1_drop_39 0 rfl ?_
    refine j_get (pc := 40) C (ref := "GrainSiloModel") (T := TX1) (N := 16) hin 0 rfl rfl 6 (by decide) (C.w 3 rfl) rfl rfl dX1_drop_40 ?_
    refine j_iload_n (pc := 43) C dX1_drop_43 2 rfl ?_
    refine j_iconst (pc := 44) C dX1_drop_44 ?_
    refine j_iadd (pc := 45) C dX1_drop_45 ?_
    refine j_iald (pc := 46) C 4 0 rfl rfl (by omega) (by omega) (by decide) dX1_drop_46 ?_
    refine j_iast (pc := 47) C 4 0 rfl rfl (by omega) (by omega) (by decide) (ws' := wN h c1 th L K Dm (S - 1) (upZ (shA lo a (i + 1)) i ((shA lo a (i + 1)) (i + 1))) (upZ (shA hi a (i + 1)) i ((shA hi a (i + 1)) (i + 1))) (shA su a (i + 1)) (shA db a (i + 1)) dy li so sp X ke se) rfl dX1_drop_47 ?_
    refine j_aload_n (pc := 48) C dX1_drop_48 0 rfl ?_
    refine j_get (pc := 49) C (ref := "GrainSiloModel") (T := TX1) (N := 16) hin 0 rfl rfl 7 (by decide) (C.w 4 rfl) rfl rfl dX1_drop_49 ?_
    refine j_iload_n (pc := 52) C dX1_drop_52 2 rfl ?_
    refine j_aload_n (pc := 53) C dX1_drop_53 0 rfl ?_
    refine j_get (pc := 54) C (ref := "GrainSiloModel") (T := TX1) (N := 16) hin 0 rfl rfl 7 (by decide) (C.w 4 rfl) rfl rfl dX1_drop_54 ?_
    refine j_iload_n (pc := 57) C dX1_drop_57 2 rfl ?_
    refine j_iconst (pc := 58) C dX1_drop_58 ?_
    refine j_iadd (pc := 59) C dX1_drop_59 ?_
    refine j_iald (pc := 60) C 5 0 rfl rfl (by omega) (by omega) (by decide) dX1_drop_60 ?_
    refine j_iast (pc := 61) C 5 0 rfl rfl (by omega) (by omega) (by decide) (ws' := wN h c1 th L K Dm (S - 1) (upZ (shA lo a (i + 1)) i ((shA lo a (i + 1)) (i + 1))) (upZ (shA hi a (i + 1)) i ((shA hi a (i + 1)) (i + 1))) (upZ (shA su a (i + 1)) i ((shA su a (i + 1)) (i + 1))) (shA db a (i + 1)) dy li so sp X ke se) rfl dX1_drop_61 ?_
    refine j_aload_n (pc := 62) C dX1_drop_62 0 rfl ?_
    refine j_get (pc := 63) C (ref := "GrainSiloModel") (T := TX1) (N := 16) hin 0 rfl rfl 8 (by decide) (C.w 5 rfl) rfl rfl dX1_drop_63 ?_
    refine j_iload_n (pc := 66) C dX1_drop_66 2 rfl ?_
    refine j_aload_n (pc := 67) C dX1_drop_67 0 rfl ?_
    refine j_get (pc := 68) C (ref := "GrainSiloModel") (T := TX1) (N := 16) hin 0 rfl rfl 8 (by decide) (C.w 5 rfl) rfl rfl dX1_drop_68 ?_
    refine j_iload_n (pc := 71) C dX1_drop_71 2 rfl ?_
    refine j_iconst (pc := 72) C dX1_drop_72 ?_
    refine j_iadd (pc := 73) C dX1_drop_73 ?_
    refine j_iald (pc := 74) C 6 0 rfl rfl (by omega) (by omega) (by decide) dX1_drop_74 ?_
    refine j_iast (pc := 75) C 6 0 rfl rfl (by omega) (by omega) (by decide) (ws' := wN h c1 th L K Dm (S - 1) (upZ (shA lo a (i + 1)) i ((shA lo a (i + 1)) (i + 1))) (upZ (shA hi a (i + 1)) i ((shA hi a (i + 1)) (i + 1))) (upZ (shA su a (i + 1)) i ((shA su a (i + 1)) (i + 1))) (upZ (shA db a (i + 1)) i ((shA db a (i + 1)) (i + 1))) dy li so sp X ke se) rfl dX1_drop_75 ?_
    refine j_iinc (pc := 76) C (lv' := [(0, .ref (h 0)), (1, .int (zI a)), (2, .int (zI (i + 1)))]) dX1_drop_76 2 rfl (by decide) [1, 2, 0] rfl ?_
    refine j_goto (pc := 79) C 12 dX1_drop_79 (by decide) ?_
    exact J.cast (hk_12 trivial) (by rw [shB_up lo a i h0_12, shB_up hi a i h0_12, shB_up su a i h0_12, shB_up db a i h0_12]) (by rfl) rfl
  · intro hI_12
    try dsimp only at hI_12 ⊢
    refine j_iload_n (pc := 12) C dX1_drop_12 2 rfl ?_
    refine j_aload_n (pc := 13) C dX1_drop_13 0 rfl ?_
    refine j_get (pc := 14) C (ref := "GrainSiloModel") (T := TX1) (N := 16) hin 0 rfl rfl 4 (by decide) (C.w 1 rfl) rfl rfl dX1_drop_14 ?_
    refine j_icmp_ge (pc := 17) C 82 dX1_drop_17 (by decide) ⟨by omega, by omega⟩ ⟨by omega, by omega⟩ (fun c_17 => ?_) (fun c_17 => absurd c_17 (by omega))
    exact j_vret (pc := 82) C hr dX1_drop_82 (by rfl) (by decide) (by decide)
set_option maxHeartbeats 4000000 in
set_option maxRecDepth 100000 in
theorem kX1_sink (l : Launch) (D : va_G) (h : Nat → Nat) (c1 c2 c3 : ClassId) (th L : Int) (K Dm : Int → Int) (S : Int) (lo hi su db : Int → Int) (dy li so sp : Int) (X : Int → Int → Int) (ke se : Int → Int) (hL0 : 1 ≤ L) (hL : L ≤ 12) (hS0 : 0 ≤ S) (hS : S ≤ 16) (hlo : ∀ j, 0 ≤ j → j < S → 0 ≤ lo j ∧ lo j ≤ 12) : cV l yX1_sink wsX1_sink ({ frames := 0, cells := 0, slots := 0, locals := 0 }) D (tyS c1 c2 c3) [.ref (h 0)] (wN h c1 th L K Dm S lo hi su db dy li so sp X ke se) (wN h c1 th L (shf K (L - 1 + 1)) (shf Dm (L - 1 + 1)) S (mix (fun j => if 0 < lo j then lo j - 1 else lo j) lo S) (mix (fun j => hi j - 1) hi S) su db dy li so sp X ke se) 0 0 := by
  refine cV.of (cc := cX1_sink) (maxL := 2) (by decide) rfl (lv := [(0, .ref (h 0))]) [0] rfl (Nat.le_of_ble_eq_true rfl) ?_
  intro p e s m args below meth c A C hr
  have C : GC p s m args meth c cX1_sink 2 RX1 wsX1_sink D (tyS c1 c2 c3) A := C
  have hin : ∀ w ∈ wsX10, w ∈ wsX1_sink := fun _ h => List.mem_cons_of_mem _ (List.mem_append_right _ h)
  refine j_iconst (pc := 0) C dX1_sink_0 ?_
  refine j_istore_n (pc := 1) C (lv' := [(0, .ref (h 0)), (1, .int (zI 0))]) dX1_sink_1 (by decide) [1, 0] rfl ?_
  refine J.cast (ws' := wN h c1 th L (shf K (0 + 1)) (shf Dm (0 + 1)) S lo hi su db dy li so sp X ke se) (lv' := [(0, .ref (h 0)), (1, .int (zI 0))]) ?_ (by rw [show (0 : Int) + 1 = 1 from rfl, shf_1, shf_1]) (by rfl) rfl
  refine j_up (fun i : Int => wN h c1 th L (shf K (i + 1)) (shf Dm (i + 1)) S lo hi su db dy li so sp X ke se) (fun i : Int => [(0, .ref (h 0)), (1, .int (zI i))]) (fun i : Int => True) 0 (L - 1) (by omega) trivial ?_ ?_
  · intro i h0_2 h1_2 hI_2 hk_2
    try dsimp only at hI_2 hk_2 ⊢
    refine j_iload_n (pc := 2) C dX1_sink_2 1 rfl ?_
    refine j_iconst (pc := 3) C dX1_sink_3 ?_
    refine j_iadd (pc := 4) C dX1_sink_4 ?_
    refine j_aload_n (pc := 5) C dX1_sink_5 0 rfl ?_
    refine j_get (pc := 6) C (ref := "GrainSiloModel") (T := TX1) (N := 16) hin 0 rfl rfl 1 (by decide) (C.w 1 rfl) rfl rfl dX1_sink_6 ?_
    refine j_icmp_ge (pc := 9) C 46 dX1_sink_9 (by decide) ⟨by omega, by omega⟩ ⟨by omega, by omega⟩ (fun c_9 => absurd c_9 (by omega)) (fun c_9 => ?_)
    refine j_aload_n (pc := 12) C dX1_sink_12 0 rfl ?_
    refine j_get (pc := 13) C (ref := "GrainSiloModel") (T := TX1) (N := 16) hin 0 rfl rfl 2 (by decide) (C.w 2 rfl) rfl rfl dX1_sink_13 ?_
    refine j_iload_n (pc := 16) C dX1_sink_16 1 rfl ?_
    refine j_aload_n (pc := 17) C dX1_sink_17 0 rfl ?_
    refine j_get (pc := 18) C (ref := "GrainSiloModel") (T := TX1) (N := 16) hin 0 rfl rfl 2 (by decide) (C.w 2 rfl) rfl rfl dX1_sink_18 ?_
    refine j_iload_n (pc := 21) C dX1_sink_21 1 rfl ?_
    refine j_iconst (pc := 22) C dX1_sink_22 ?_
    refine j_iadd (pc := 23) C dX1_sink_23 ?_
    refine j_iald (pc := 24) C 1 0 rfl rfl (by omega) (by omega) (by decide) dX1_sink_24 ?_
    refine j_iast (pc := 25) C 1 0 rfl rfl (by omega) (by omega) (by decide) (ws' := wN h c1 th L (upZ (shf K (i + 1)) i ((shf K (i + 1)) (i + 1))) (shf Dm (i + 1)) S lo hi su db dy li so sp X ke se) rfl dX1_sink_25 ?_
    refine j_aload_n (pc := 26) C dX1_sink_26 0 rfl ?_
    refine j_get (pc := 27) C (ref := "GrainSiloModel") (T := TX1) (N := 16) hin 0 rfl rfl 3 (by decide) (C.w 3 rfl) rfl rfl dX1_sink_27 ?_
    refine j_iload_n (pc := 30) C dX1_sink_30 1 rfl ?_
    refine j_aload_n (pc := 31) C dX1_sink_31 0 rfl ?_
    refine j_get (pc := 32) C (ref := "GrainSiloModel") (T := TX1) (N := 16) hin 0 rfl rfl 3 (by decide) (C.w 3 rfl) rfl rfl dX1_sink_32 ?_
    refine j_iload_n (pc := 35) C dX1_sink_35 1 rfl ?_
    refine j_iconst (pc := 36) C dX1_sink_36 ?_
    refine j_iadd (pc := 37) C dX1_sink_37 ?_
    refine j_iald (pc := 38) C 2 0 rfl rfl (by omega) (by omega) (by decide) dX1_sink_38 ?_
    refine j_iast (pc := 39) C 2 0 rfl rfl (by omega) (by omega) (by decide) (ws' := wN h c1 th L (upZ (shf K (i + 1)) i ((shf K (i + 1)) (i + 1))) (upZ (shf Dm (i + 1)) i ((shf Dm (i + 1)) (i + 1))) S lo hi su db dy li so sp X ke se) rfl dX1_sink_39 ?_
    refine j_iinc (pc := 40) C (lv' := [(0, .ref (h 0)), (1, .int (zI (i + 1)))]) dX1_sink_40 1 rfl (by decide) [1, 0] rfl ?_
    refine j_goto (pc := 43) C 2 dX1_sink_43 (by decide) ?_
    exact J.cast (hk_2 trivial) (by rw [shf_up2 K i h0_2, shf_up2 Dm i h0_2]) (by rfl) rfl
  · intro hI_2
    try dsimp only at hI_2 ⊢
    refine j_iload_n (pc := 2) C dX1_sink_2 1 rfl ?_
    refine j_iconst (pc := 3) C dX1_sink_3 ?_
    refine j_iadd (pc := 4) C dX1_sink_4 ?_
    refine j_aload_n (pc := 5) C dX1_sink_5 0 rfl ?_
    refine j_get (pc := 6) C (ref := "GrainSiloModel") (T := TX1) (N := 16) hin 0 rfl rfl 1 (by decide) (C.w 1 rfl) rfl rfl dX1_sink_6 ?_
    refine j_icmp_ge (pc := 9) C 46 dX1_sink_9 (by decide) ⟨by omega, by omega⟩ ⟨by omega, by omega⟩ (fun c_9 => ?_) (fun c_9 => absurd c_9 (by omega))
    refine j_iconst (pc := 46) C dX1_sink_46 ?_
    refine j_istore_n (pc := 47) C (lv' := [(0, .ref (h 0)), (1, .int (zI 0))]) dX1_sink_47 (by decide) [1, 0] rfl ?_
    refine J.cast (ws' := wN h c1 th L (shf K ((L - 1) + 1)) (shf Dm ((L - 1) + 1)) S (mix (fun j => if 0 < lo j then lo j - 1 else lo j) lo 0) (mix (fun j => hi j - 1) hi 0) su db dy li so sp X ke se) (lv' := [(0, .ref (h 0)), (1, .int (zI 0))]) ?_ (by rw [mix_0, mix_0]) (by rfl) rfl
    refine j_up (fun i : Int => wN h c1 th L (shf K ((L - 1) + 1)) (shf Dm ((L - 1) + 1)) S (mix (fun j => if 0 < lo j then lo j - 1 else lo j) lo i) (mix (fun j => hi j - 1) hi i) su db dy li so sp X ke se) (fun i : Int => [(0, .ref (h 0)), (1, .int (zI i))]) (fun i : Int => True) 0 S (by omega) trivial ?_ ?_
    · intro i h0_48 h1_48 hI_48 hk_48
      try dsimp only at hI_48 hk_48 ⊢
      have e1 : mix (fun j => if 0 < lo j then lo j - 1 else lo j) lo i i = lo i := mix_ge _ _ _ _ (Int.le_refl _)
      have e3 : mix (fun j => hi j - 1) hi i i = hi i := mix_ge _ _ _ _ (Int.le_refl _)
      have e4 := hlo i h0_48 h1_48
      refine j_iload_n (pc := 48) C dX1_sink_48 1 rfl ?_
      refine j_aload_n (pc := 49) C dX1_sink_49 0 rfl ?_
      refine j_get (pc := 50) C (ref := "GrainSiloModel") (T := TX1) (N := 16) hin 0 rfl rfl 4 (by decide) (C.w 4 rfl) rfl rfl dX1_sink_50 ?_
      refine j_icmp_ge (pc := 53) C 91 dX1_sink_53 (by decide) ⟨by omega, by omega⟩ ⟨by omega, by omega⟩ (fun c_53 => absurd c_53 (by omega)) (fun c_53 => ?_)
      refine j_aload_n (pc := 56) C dX1_sink_56 0 rfl ?_
      refine j_get (pc := 57) C (ref := "GrainSiloModel") (T := TX1) (N := 16) hin 0 rfl rfl 5 (by decide) (C.w 5 rfl) rfl rfl dX1_sink_57 ?_
      refine j_iload_n (pc := 60) C dX1_sink_60 1 rfl ?_
      refine j_iald (pc := 61) C 3 0 rfl rfl (by omega) (by omega) (by decide) dX1_sink_61 ?_
      refine j_if_le (pc := 62) C 75 dX1_sink_62 (by decide) ⟨by omega, by omega⟩ (fun c_62 => ?_) (fun c_62 => ?_)
      · skip
        refine j_aload_n (pc := 75) C dX1_sink_75 0 rfl ?_
        refine j_get (pc := 76) C (ref := "GrainSiloModel") (T := TX1) (N := 16) hin 0 rfl rfl 6 (by decide) (C.w 6 rfl) rfl rfl dX1_sink_76 ?_
        refine j_iload_n (pc := 79) C dX1_sink_79 1 rfl ?_
        refine j_dup2 (pc := 80) C dX1_sink_80 rfl rfl ?_
        refine j_iald (pc := 81) C 4 0 rfl rfl (by omega) (by omega) (by decide) dX1_sink_81 ?_
        refine j_iconst (pc := 82) C dX1_sink_82 ?_
        refine j_isub (pc := 83) C dX1_sink_83 ?_
        refine j_iast (pc := 84) C 4 0 rfl rfl (by omega) (by omega) (by decide) (ws' := wN h c1 th L (shf K ((L - 1) + 1)) (shf Dm ((L - 1) + 1)) S (mix (fun j => if 0 < lo j then lo j - 1 else lo j) lo i) (upZ (mix (fun j => hi j - 1) hi i) i (((mix (fun j => hi j - 1) hi i) i) - 1)) su db dy li so sp X ke se) rfl dX1_sink_84 ?_
        refine j_iinc (pc := 85) C (lv' := [(0, .ref (h 0)), (1, .int (zI (i + 1)))]) dX1_sink_85 1 rfl (by decide) [1, 0] rfl ?_
        refine j_goto (pc := 88) C 48 dX1_sink_88 (by decide) ?_
        exact J.cast (hk_48 trivial) (by first | (rw [mix_same (fun j => if 0 < lo j then lo j - 1 else lo j) lo i h0_48 (if_neg (by omega)), mix_up _ hi i h0_48, e3]) | (rw [mix_up (fun j => if 0 < lo j then lo j - 1 else lo j) lo i h0_48, mix_up _ hi i h0_48, e1, e3, if_pos (show 0 < lo i by omega)])) (by rfl) rfl
      · skip
        refine j_aload_n (pc := 65) C dX1_sink_65 0 rfl ?_
        refine j_get (pc := 66) C (ref := "GrainSiloModel") (T := TX1) (N := 16) hin 0 rfl rfl 5 (by decide) (C.w 5 rfl) rfl rfl dX1_sink_66 ?_
        refine j_iload_n (pc := 69) C dX1_sink_69 1 rfl ?_
        refine j_dup2 (pc := 70) C dX1_sink_70 rfl rfl ?_
        refine j_iald (pc := 71) C 3 0 rfl rfl (by omega) (by omega) (by decide) dX1_sink_71 ?_
        refine j_iconst (pc := 72) C dX1_sink_72 ?_
        refine j_isub (pc := 73) C dX1_sink_73 ?_
        refine j_iast (pc := 74) C 3 0 rfl rfl (by omega) (by omega) (by decide) (ws' := wN h c1 th L (shf K ((L - 1) + 1)) (shf Dm ((L - 1) + 1)) S (upZ (mix (fun j => if 0 < lo j then lo j - 1 else lo j) lo i) i (((mix (fun j => if 0 < lo j then lo j - 1 else lo j) lo i) i) - 1)) (mix (fun j => hi j - 1) hi i) su db dy li so sp X ke se) rfl dX1_sink_74 ?_
        refine j_aload_n (pc := 75) C dX1_sink_75 0 rfl ?_
        refine j_get (pc := 76) C (ref := "GrainSiloModel") (T := TX1) (N := 16) hin 0 rfl rfl 6 (by decide) (C.w 6 rfl) rfl rfl dX1_sink_76 ?_
        refine j_iload_n (pc := 79) C dX1_sink_79 1 rfl ?_
        refine j_dup2 (pc := 80) C dX1_sink_80 rfl rfl ?_
        refine j_iald (pc := 81) C 4 0 rfl rfl (by omega) (by omega) (by decide) dX1_sink_81 ?_
        refine j_iconst (pc := 82) C dX1_sink_82 ?_
        refine j_isub (pc := 83) C dX1_sink_83 ?_
        refine j_iast (pc := 84) C 4 0 rfl rfl (by omega) (by omega) (by decide) (ws' := wN h c1 th L (shf K ((L - 1) + 1)) (shf Dm ((L - 1) + 1)) S (upZ (mix (fun j => if 0 < lo j then lo j - 1 else lo j) lo i) i (((mix (fun j => if 0 < lo j then lo j - 1 else lo j) lo i) i) - 1)) (upZ (mix (fun j => hi j - 1) hi i) i (((mix (fun j => hi j - 1) hi i) i) - 1)) su db dy li so sp X ke se) rfl dX1_sink_84 ?_
        refine j_iinc (pc := 85) C (lv' := [(0, .ref (h 0)), (1, .int (zI (i + 1)))]) dX1_sink_85 1 rfl (by decide) [1, 0] rfl ?_
        refine j_goto (pc := 88) C 48 dX1_sink_88 (by decide) ?_
        exact J.cast (hk_48 trivial) (by first | (rw [mix_same (fun j => if 0 < lo j then lo j - 1 else lo j) lo i h0_48 (if_neg (by omega)), mix_up _ hi i h0_48, e3]) | (rw [mix_up (fun j => if 0 < lo j then lo j - 1 else lo j) lo i h0_48, mix_up _ hi i h0_48, e1, e3, if_pos (show 0 < lo i by omega)])) (by rfl) rfl
    · intro hI_48
      try dsimp only at hI_48 ⊢
      refine j_iload_n (pc := 48) C dX1_sink_48 1 rfl ?_
      refine j_aload_n (pc := 49) C dX1_sink_49 0 rfl ?_
      refine j_get (pc := 50) C (ref := "GrainSiloModel") (T := TX1) (N := 16) hin 0 rfl rfl 4 (by decide) (C.w 4 rfl) rfl rfl dX1_sink_50 ?_
      refine j_icmp_ge (pc := 53) C 91 dX1_sink_53 (by decide) ⟨by omega, by omega⟩ ⟨by omega, by omega⟩ (fun c_53 => ?_) (fun c_53 => absurd c_53 (by omega))
      exact j_vret (pc := 91) C hr dX1_sink_91 (by rfl) (by decide) (by decide)
set_option maxHeartbeats 4000000 in
set_option maxRecDepth 100000 in
theorem kX1_towards (l : Launch) (D : va_G) (h : Nat → Nat) (c1 c2 c3 : ClassId) (th L : Int) (K Dm : Int → Int) (S : Int) (lo hi su db : Int → Int) (dy li so sp : Int) (X : Int → Int → Int) (ke se : Int → Int) (a b : Int) (hL0 : 0 ≤ L) (hL : L ≤ 12) (h0 : 0 ≤ a) (h1 : a < L) (h2 : -1 ≤ b) (h3 : b ≤ 12) (hf : ∀ j, 0 ≤ j → j < L → 0 ≤ Dm j ∧ Dm j ≤ 40) : cI l yX1_towards wsX1_towards ({ frames := 2, cells := 0, slots := 0, locals := 43 }) D (tyS c1 c2 c3) [.ref (h 0), .int (zI a), .int (zI b)] (wN h c1 th L K Dm S lo hi su db dy li so sp X ke se) (wN h c1 th L K Dm S lo hi su db dy li so sp X ke se) (zI (pull Dm L a b)) 0 0 := by
  refine cI.of (cc := cX1_towards) (maxL := 4) (ret := .int) (by decide) rfl (lv := [(0, .ref (h 0)), (1, .int (zI a)), (2, .int (zI b))]) [0, 1, 2] rfl (Nat.le_of_ble_eq_true rfl) ?_
  intro p e s m args below meth c A C hr
  have C : GC p s m args meth c cX1_towards 4 RX1 wsX1_towards D (tyS c1 c2 c3) A := C
  have hin : ∀ w ∈ wsX10, w ∈ wsX1_towards := fun _ h => List.mem_cons_of_mem _ (List.mem_append_right _ h)
  refine j_aload_n (pc := 0) C dX1_towards_0 0 rfl ?_
  refine j_iload_n (pc := 1) C dX1_towards_1 2 rfl ?_
  refine j_callI (pc := 2) C (As := [.int (zI b)]) (rest := []) (kX1_isLayer l D h c1 c2 c3 th L K Dm S lo hi su db dy li so sp X ke se b (by omega) (by omega) ⟨by omega, by omega⟩) (cwV 1 C.2.2.2.2.1 gX1_towards_X1_isLayer rfl rfl rfl (by decide +kernel) ⟨Nat.le_of_ble_eq_true rfl, Nat.le_of_ble_eq_true rfl⟩) 0 (ci := 1) rfl rfl rfl dX1_towards_2 rfl rfl (Nat.le_of_ble_eq_true rfl) (by decide) ?_
  refine j_if_ne (pc := 5) C 10 dX1_towards_5 (by decide) ⟨by omega, by omega⟩ (fun c_5 => ?_) (fun c_5 => ?_)
  · skip
    have e1 := hf b (by omega) (by omega)
    have e2 := hf a (by omega) (by omega)
    refine j_aload_n (pc := 10) C dX1_towards_10 0 rfl ?_
    refine j_get (pc := 11) C (ref := "GrainSiloModel") (T := TX1) (N := 16) hin 0 rfl rfl 3 (by decide) (C.w 1 rfl) rfl rfl dX1_towards_11 ?_
    refine j_iload_n (pc := 14) C dX1_towards_14 2 rfl ?_
    refine j_iald (pc := 15) C 2 0 rfl rfl (by omega) (by omega) (by decide) dX1_towards_15 ?_
    refine j_aload_n (pc := 16) C dX1_towards_16 0 rfl ?_
    refine j_get (pc := 17) C (ref := "GrainSiloModel") (T := TX1) (N := 16) hin 0 rfl rfl 3 (by decide) (C.w 1 rfl) rfl rfl dX1_towards_17 ?_
    refine j_iload_n (pc := 20) C dX1_towards_20 1 rfl ?_
    refine j_iald (pc := 21) C 2 0 rfl rfl (by omega) (by omega) (by decide) dX1_towards_21 ?_
    refine j_isub (pc := 22) C dX1_towards_22 ?_
    refine j_istore_n (pc := 23) C (lv' := [(0, .ref (h 0)), (1, .int (zI a)), (2, .int (zI b)), (3, .int (zI ((Dm b) - (Dm a))))]) dX1_towards_23 (by decide) [1, 2, 3, 0] rfl ?_
    refine j_iload_n (pc := 24) C dX1_towards_24 3 rfl ?_
    refine j_iconst (pc := 25) C dX1_towards_25 ?_
    refine j_icmp_lt (pc := 26) C 33 dX1_towards_26 (by decide) ⟨by omega, by omega⟩ ⟨by omega, by omega⟩ (fun c_26 => ?_) (fun c_26 => ?_)
    · skip
      refine j_iload_n (pc := 33) C dX1_towards_33 3 rfl ?_
      refine j_bipush (pc := 34) C dX1_towards_34 (by decide +kernel) ?_
      refine j_icmp_gt (pc := 36) C 43 dX1_towards_36 (by decide) ⟨by omega, by omega⟩ ⟨by omega, by omega⟩ (fun c_36 => ?_) (fun c_36 => ?_)
      · skip
        refine j_iconst (pc := 43) C dX1_towards_43 ?_
        exact j_iret (pc := 44) C hr dX1_towards_44 (by (unfold pull; first | rw [if_pos (by omega)] | rw [if_neg (by omega), if_pos (by omega)] | rw [if_neg (by omega), if_neg (by omega), if_pos (by omega)] | rw [if_neg (by omega), if_neg (by omega), if_neg (by omega)])) (by rfl) (by decide) (by decide)
      · skip
        refine j_iconst (pc := 39) C dX1_towards_39 ?_
        refine j_goto (pc := 40) C 44 dX1_towards_40 (by decide) ?_
        exact j_iret (pc := 44) C hr dX1_towards_44 (by (unfold pull; first | rw [if_pos (by omega)] | rw [if_neg (by omega), if_pos (by omega)] | rw [if_neg (by omega), if_neg (by omega), if_pos (by omega)] | rw [if_neg (by omega), if_neg (by omega), if_neg (by omega)])) (by rfl) (by decide) (by decide)
    · skip
      refine j_iconst (pc := 29) C dX1_towards_29 ?_
      refine j_goto (pc := 30) C 44 dX1_towards_30 (by decide) ?_
      exact j_iret (pc := 44) C hr dX1_towards_44 (by (unfold pull; first | rw [if_pos (by omega)] | rw [if_neg (by omega), if_pos (by omega)] | rw [if_neg (by omega), if_neg (by omega), if_pos (by omega)] | rw [if_neg (by omega), if_neg (by omega), if_neg (by omega)])) (by rfl) (by decide) (by decide)
  · skip
    refine j_iconst (pc := 8) C dX1_towards_8 ?_
    exact j_iret (pc := 9) C hr dX1_towards_9 (by (unfold pull; first | rw [if_pos (by omega)] | rw [if_neg (by omega), if_pos (by omega)] | rw [if_neg (by omega), if_neg (by omega), if_pos (by omega)] | rw [if_neg (by omega), if_neg (by omega), if_neg (by omega)])) (by rfl) (by decide) (by decide)
set_option maxHeartbeats 4000000 in
set_option maxRecDepth 100000 in
theorem kX1_evenOut (l : Launch) (D : va_G) (h : Nat → Nat) (c1 c2 c3 : ClassId) (th L : Int) (K Dm : Int → Int) (S : Int) (lo hi su db : Int → Int) (dy li so sp : Int) (X : Int → Int → Int) (ke se : Int → Int) (hL0 : 0 ≤ L) (hL : L ≤ 12) (hf : ∀ j, 0 ≤ j → j < L → 0 ≤ Dm j ∧ Dm j ≤ 40) : cI l yX1_evenOut wsX1_evenOut ({ frames := 3, cells := 0, slots := 0, locals := 66 }) D (tyS c1 c2 c3) [.ref (h 0)] (wN h c1 th L K Dm S lo hi su db dy li so sp X ke se) (wN h c1 th L K (mix (turnD Dm L) Dm L) S lo hi su db dy li so sp X ke (mix (turn Dm L) se L)) (zI (turnC Dm L)) 0 0 := by
  refine cI.of (cc := cX1_evenOut) (maxL := 3) (ret := .int) (by decide) rfl (lv := [(0, .ref (h 0))]) [0] rfl (Nat.le_of_ble_eq_true rfl) ?_
  intro p e s m args below meth c A C hr
  have C : GC p s m args meth c cX1_evenOut 3 RX1 wsX1_evenOut D (tyS c1 c2 c3) A := C
  have hin : ∀ w ∈ wsX10, w ∈ wsX1_evenOut := fun _ h => List.mem_cons_of_mem _ (List.mem_append_right _ h)
  refine j_iconst (pc := 0) C dX1_evenOut_0 ?_
  refine j_istore_n (pc := 1) C (lv' := [(0, .ref (h 0)), (1, .int (zI 0))]) dX1_evenOut_1 (by decide) [1, 0] rfl ?_
  refine j_iconst (pc := 2) C dX1_evenOut_2 ?_
  refine j_istore_n (pc := 3) C (lv' := [(0, .ref (h 0)), (1, .int (zI 0)), (2, .int (zI 0))]) dX1_evenOut_3 (by decide) [1, 2, 0] rfl ?_
  refine J.cast (ws' := wN h c1 th L K Dm S lo hi su db dy li so sp X ke (mix (turn Dm L) se 0)) (lv' := [(0, .ref (h 0)), (1, .int (zI 0)), (2, .int (zI 0))]) ?_ (by rw [mix_0]) (by rfl) rfl
  refine j_up (fun i : Int => wN h c1 th L K Dm S lo hi su db dy li so sp X ke (mix (turn Dm L) se i)) (fun i : Int => [(0, .ref (h 0)), (1, .int (zI 0)), (2, .int (zI i))]) (fun i : Int => True) 0 L (by omega) trivial ?_ ?_
  · intro i h0_4 h1_4 hI_4 hk_4
    try dsimp only at hI_4 hk_4 ⊢
    have e1 := pull_in Dm L i (i - 1)
    have e2 := pull_in Dm L i (i + 1)
    refine j_iload_n (pc := 4) C dX1_evenOut_4 2 rfl ?_
    refine j_aload_n (pc := 5) C dX1_evenOut_5 0 rfl ?_
    refine j_get (pc := 6) C (ref := "GrainSiloModel") (T := TX1) (N := 16) hin 0 rfl rfl 1 (by decide) (C.w 1 rfl) rfl rfl dX1_evenOut_6 ?_
    refine j_icmp_ge (pc := 9) C 44 dX1_evenOut_9 (by decide) ⟨by omega, by omega⟩ ⟨by omega, by omega⟩ (fun c_9 => absurd c_9 (by omega)) (fun c_9 => ?_)
    refine j_aload_n (pc := 12) C dX1_evenOut_12 0 rfl ?_
    refine j_get (pc := 13) C (ref := "GrainSiloModel") (T := TX1) (N := 16) hin 0 rfl rfl 15 (by decide) (C.w 2 rfl) rfl rfl dX1_evenOut_13 ?_
    refine j_iload_n (pc := 16) C dX1_evenOut_16 2 rfl ?_
    refine j_aload_n (pc := 17) C dX1_evenOut_17 0 rfl ?_
    refine j_iload_n (pc := 18) C dX1_evenOut_18 2 rfl ?_
    refine j_iload_n (pc := 19) C dX1_evenOut_19 2 rfl ?_
    refine j_iconst (pc := 20) C dX1_evenOut_20 ?_
    refine j_isub (pc := 21) C dX1_evenOut_21 ?_
    refine j_callI (pc := 22) C (As := [.int (zI i), .int (zI (i - 1))]) (rest := [.int (zI i), .ref (h 9)]) (kX1_towards l D h c1 c2 c3 th L K Dm S lo hi su db dy li so sp X ke (mix (turn Dm L) se i) i (i - 1) (by omega) (by omega) (by omega) (by omega) (by omega) (by omega) hf) (cwV 2 C.2.2.2.2.1 gX1_evenOut_X1_towards rfl rfl rfl (by decide +kernel) ⟨Nat.le_of_ble_eq_true rfl, Nat.le_of_ble_eq_true rfl⟩) 0 (ci := 1) rfl rfl rfl dX1_evenOut_22 rfl rfl (Nat.le_of_ble_eq_true rfl) (by decide) ?_
    refine j_aload_n (pc := 25) C dX1_evenOut_25 0 rfl ?_
    refine j_iload_n (pc := 26) C dX1_evenOut_26 2 rfl ?_
    refine j_iload_n (pc := 27) C dX1_evenOut_27 2 rfl ?_
    refine j_iconst (pc := 28) C dX1_evenOut_28 ?_
    refine j_iadd (pc := 29) C dX1_evenOut_29 ?_
    refine j_callI (pc := 30) C (As := [.int (zI i), .int (zI (i + 1))]) (rest := [.int (zI (pull Dm L i (i - 1))), .int (zI i), .ref (h 9)]) (kX1_towards l D h c1 c2 c3 th L K Dm S lo hi su db dy li so sp X ke (mix (turn Dm L) se i) i (i + 1) (by omega) (by omega) (by omega) (by omega) (by omega) (by omega) hf) (cwV 2 C.2.2.2.2.1 gX1_evenOut_X1_towards rfl rfl rfl (by decide +kernel) ⟨Nat.le_of_ble_eq_true rfl, Nat.le_of_ble_eq_true rfl⟩) 0 (ci := 1) rfl rfl rfl dX1_evenOut_30 rfl rfl (Nat.le_of_ble_eq_true rfl) (by decide) ?_
    refine j_iadd (pc := 33) C dX1_evenOut_33 ?_
    refine j_callSI (pc := 34) C (As := [.int (zI ((pull Dm L i (i - 1)) + (pull Dm L i (i + 1))))]) (rest := [.int (zI i), .ref (h 9)]) (kJ6_signum_0f7a4 l D c1 c2 c3 ((pull Dm L i (i - 1)) + (pull Dm L i (i + 1))) (by omega) (by omega)) (va_cwS 1 C.2.2.2.2.1 gX1_evenOut_J6_signum_0f7a4 rfl rfl rfl (by decide +kernel) ⟨Nat.le_of_ble_eq_true rfl, Nat.le_of_ble_eq_true rfl⟩) dX1_evenOut_34 rfl rfl (Nat.le_of_ble_eq_true rfl) (by decide) ?_
    refine j_iast (pc := 37) C 9 0 rfl rfl (by omega) (by omega) (by decide) (ws' := wN h c1 th L K Dm S lo hi su db dy li so sp X ke (upZ (mix (turn Dm L) se i) i (sgn ((pull Dm L i (i - 1)) + (pull Dm L i (i + 1)))))) rfl dX1_evenOut_37 ?_
    refine j_iinc (pc := 38) C (lv' := [(0, .ref (h 0)), (1, .int (zI 0)), (2, .int (zI (i + 1)))]) dX1_evenOut_38 2 rfl (by decide) [1, 2, 0] rfl ?_
    refine j_goto (pc := 41) C 4 dX1_evenOut_41 (by decide) ?_
    exact J.cast (hk_4 trivial) (by (rw [mix_up (turn Dm L) se i h0_4]; rfl)) (by rfl) rfl
  · intro hI_4
    try dsimp only at hI_4 ⊢
    refine j_iload_n (pc := 4) C dX1_evenOut_4 2 rfl ?_
    refine j_aload_n (pc := 5) C dX1_evenOut_5 0 rfl ?_
    refine j_get (pc := 6) C (ref := "GrainSiloModel") (T := TX1) (N := 16) hin 0 rfl rfl 1 (by decide) (C.w 1 rfl) rfl rfl dX1_evenOut_6 ?_
    refine j_icmp_ge (pc := 9) C 44 dX1_evenOut_9 (by decide) ⟨by omega, by omega⟩ ⟨by omega, by omega⟩ (fun c_9 => ?_) (fun c_9 => absurd c_9 (by omega))
    refine j_iconst (pc := 44) C dX1_evenOut_44 ?_
    refine j_istore_n (pc := 45) C (lv' := [(0, .ref (h 0)), (1, .int (zI 0)), (2, .int (zI 0))]) dX1_evenOut_45 (by decide) [1, 2, 0] rfl ?_
    refine J.cast (ws' := wN h c1 th L K (mix (turnD Dm L) Dm 0) S lo hi su db dy li so sp X ke (mix (turn Dm L) se L)) (lv' := [(0, .ref (h 0)), (1, .int (zI (zc (fun j => decide (turn Dm L j ≠ 0)) 0 0))), (2, .int (zI 0))]) ?_ (by rw [mix_0]) (by rw [zc_0]) rfl
    refine j_up (fun i : Int => wN h c1 th L K (mix (turnD Dm L) Dm i) S lo hi su db dy li so sp X ke (mix (turn Dm L) se L)) (fun i : Int => [(0, .ref (h 0)), (1, .int (zI (zc (fun j => decide (turn Dm L j ≠ 0)) 0 i))), (2, .int (zI i))]) (fun i : Int => True) 0 L (by omega) trivial ?_ ?_
    · intro i h0_46 h1_46 hI_46 hk_46
      try dsimp only at hI_46 hk_46 ⊢
      have e1 : mix (turn Dm L) se L i = turn Dm L i := mix_lt _ _ _ _ (by omega) (by omega)
      have e3 := turn_in Dm L i
      refine j_iload_n (pc := 46) C dX1_evenOut_46 2 rfl ?_
      refine j_aload_n (pc := 47) C dX1_evenOut_47 0 rfl ?_
      refine j_get (pc := 48) C (ref := "GrainSiloModel") (T := TX1) (N := 16) hin 0 rfl rfl 1 (by decide) (C.w 1 rfl) rfl rfl dX1_evenOut_48 ?_
      refine j_icmp_ge (pc := 51) C 92 dX1_evenOut_51 (by decide) ⟨by omega, by omega⟩ ⟨by omega, by omega⟩ (fun c_51 => absurd c_51 (by omega)) (fun c_51 => ?_)
      refine j_aload_n (pc := 54) C dX1_evenOut_54 0 rfl ?_
      refine j_get (pc := 55) C (ref := "GrainSiloModel") (T := TX1) (N := 16) hin 0 rfl rfl 3 (by decide) (C.w 3 rfl) rfl rfl dX1_evenOut_55 ?_
      refine j_iload_n (pc := 58) C dX1_evenOut_58 2 rfl ?_
      refine j_dup2 (pc := 59) C dX1_evenOut_59 rfl rfl ?_
      refine j_iald (pc := 60) C 2 0 rfl rfl (by omega) (by omega) (by decide) dX1_evenOut_60 ?_
      refine j_aload_n (pc := 61) C dX1_evenOut_61 0 rfl ?_
      refine j_get (pc := 62) C (ref := "GrainSiloModel") (T := TX1) (N := 16) hin 0 rfl rfl 15 (by decide) (C.w 2 rfl) rfl rfl dX1_evenOut_62 ?_
      refine j_iload_n (pc := 65) C dX1_evenOut_65 2 rfl ?_
      refine j_iald (pc := 66) C 9 0 rfl rfl (by omega) (by omega) (by decide) dX1_evenOut_66 ?_
      refine j_iadd (pc := 67) C dX1_evenOut_67 ?_
      refine j_iast (pc := 68) C 2 0 rfl rfl (by omega) (by omega) (by decide) (ws' := wN h c1 th L K (upZ (mix (turnD Dm L) Dm i) i (((mix (turnD Dm L) Dm i) i) + ((mix (turn Dm L) se L) i))) S lo hi su db dy li so sp X ke (mix (turn Dm L) se L)) rfl dX1_evenOut_68 ?_
      refine j_iload_n (pc := 69) C dX1_evenOut_69 1 rfl ?_
      refine j_aload_n (pc := 70) C dX1_evenOut_70 0 rfl ?_
      refine j_get (pc := 71) C (ref := "GrainSiloModel") (T := TX1) (N := 16) hin 0 rfl rfl 15 (by decide) (C.w 2 rfl) rfl rfl dX1_evenOut_71 ?_
      refine j_iload_n (pc := 74) C dX1_evenOut_74 2 rfl ?_
      refine j_iald (pc := 75) C 9 0 rfl rfl (by omega) (by omega) (by decide) dX1_evenOut_75 ?_
      refine j_if_ne (pc := 76) C 83 dX1_evenOut_76 (by decide) ⟨by omega, by omega⟩ (fun c_76 => ?_) (fun c_76 => ?_)
      · skip
        have e2 : turn Dm L i ≠ 0 := by omega
        refine j_iconst (pc := 83) C dX1_evenOut_83 ?_
        refine j_iadd (pc := 84) C dX1_evenOut_84 ?_
        refine j_istore_n (pc := 85) C (lv' := [(0, .ref (h 0)), (1, .int (zI ((zc (fun j => decide (turn Dm L j ≠ 0)) 0 i) + 1))), (2, .int (zI i))]) dX1_evenOut_85 (by decide) [1, 0, 2] rfl ?_
        refine j_iinc (pc := 86) C (lv' := [(0, .ref (h 0)), (1, .int (zI ((zc (fun j => decide (turn Dm L j ≠ 0)) 0 i) + 1))), (2, .int (zI (i + 1)))]) dX1_evenOut_86 2 rfl (by decide) [1, 2, 0] rfl ?_
        refine j_goto (pc := 89) C 46 dX1_evenOut_89 (by decide) ?_
        exact J.cast (hk_46 trivial) (by (rw [mix_up (turnD Dm L) Dm i h0_46, mix_ge (turnD Dm L) Dm i i (Int.le_refl _), e1]; try rfl)) (by first | rw [zc_f (fun j => decide (turn Dm L j ≠ 0)) 0 i h0_46 (decide_eq_false (fun q => q e2)), Int.add_zero] | rw [zc_t (fun j => decide (turn Dm L j ≠ 0)) 0 i h0_46 (decide_eq_true e2)]) rfl
      · skip
        have e2 : turn Dm L i = 0 := by omega
        refine j_iconst (pc := 79) C dX1_evenOut_79 ?_
        refine j_goto (pc := 80) C 84 dX1_evenOut_80 (by decide) ?_
        refine j_iadd (pc := 84) C dX1_evenOut_84 ?_
        refine j_istore_n (pc := 85) C (lv' := [(0, .ref (h 0)), (1, .int (zI ((zc (fun j => decide (turn Dm L j ≠ 0)) 0 i) + 0))), (2, .int (zI i))]) dX1_evenOut_85 (by decide) [1, 0, 2] rfl ?_
        refine j_iinc (pc := 86) C (lv' := [(0, .ref (h 0)), (1, .int (zI ((zc (fun j => decide (turn Dm L j ≠ 0)) 0 i) + 0))), (2, .int (zI (i + 1)))]) dX1_evenOut_86 2 rfl (by decide) [1, 2, 0] rfl ?_
        refine j_goto (pc := 89) C 46 dX1_evenOut_89 (by decide) ?_
        exact J.cast (hk_46 trivial) (by (rw [mix_up (turnD Dm L) Dm i h0_46, mix_ge (turnD Dm L) Dm i i (Int.le_refl _), e1]; try rfl)) (by first | rw [zc_f (fun j => decide (turn Dm L j ≠ 0)) 0 i h0_46 (decide_eq_false (fun q => q e2)), Int.add_zero] | rw [zc_t (fun j => decide (turn Dm L j ≠ 0)) 0 i h0_46 (decide_eq_true e2)]) rfl
    · intro hI_46
      try dsimp only at hI_46 ⊢
      refine j_iload_n (pc := 46) C dX1_evenOut_46 2 rfl ?_
      refine j_aload_n (pc := 47) C dX1_evenOut_47 0 rfl ?_
      refine j_get (pc := 48) C (ref := "GrainSiloModel") (T := TX1) (N := 16) hin 0 rfl rfl 1 (by decide) (C.w 1 rfl) rfl rfl dX1_evenOut_48 ?_
      refine j_icmp_ge (pc := 51) C 92 dX1_evenOut_51 (by decide) ⟨by omega, by omega⟩ ⟨by omega, by omega⟩ (fun c_51 => ?_) (fun c_51 => absurd c_51 (by omega))
      refine j_iload_n (pc := 92) C dX1_evenOut_92 1 rfl ?_
      exact j_iret (pc := 93) C hr dX1_evenOut_93 (by rfl) (by rfl) (by decide) (by decide)
set_option maxHeartbeats 4000000 in
set_option maxRecDepth 100000 in
theorem kX1_keep (l : Launch) (D : va_G) (h : Nat → Nat) (c1 c2 c3 : ClassId) (th L : Int) (K Dm : Int → Int) (S : Int) (lo hi su db : Int → Int) (dy li so sp : Int) (X : Int → Int → Int) (ke se : Int → Int)  : cV l yX1_keep wsX1_keep ({ frames := 1, cells := 0, slots := 0, locals := 30 }) D (tyS c1 c2 c3) [.ref (h 0)] (wN h c1 th L K Dm S lo hi su db dy li so sp X ke se) (wN h c1 th L K Dm S lo hi su db dy li so sp X (mix Dm ke 12) se) 0 0 := by
  refine cV.of (cc := cX1_keep) (maxL := 1) (by decide) rfl (lv := [(0, .ref (h 0))]) [0] rfl (Nat.le_of_ble_eq_true rfl) ?_
  intro p e s m args below meth c A C hr
  have C : GC p s m args meth c cX1_keep 1 RX1 wsX1_keep D (tyS c1 c2 c3) A := C
  have hin : ∀ w ∈ wsX10, w ∈ wsX1_keep := fun _ h => List.mem_cons_of_mem _ (List.mem_append_right _ h)
  refine j_aload_n (pc := 0) C dX1_keep_0 0 rfl ?_
  refine j_get (pc := 1) C (ref := "GrainSiloModel") (T := TX1) (N := 16) hin 0 rfl rfl 3 (by decide) (C.w 1 rfl) rfl rfl dX1_keep_1 ?_
  refine j_iconst (pc := 4) C dX1_keep_4 ?_
  refine j_aload_n (pc := 5) C dX1_keep_5 0 rfl ?_
  refine j_get (pc := 6) C (ref := "GrainSiloModel") (T := TX1) (N := 16) hin 0 rfl rfl 14 (by decide) (C.w 2 rfl) rfl rfl dX1_keep_6 ?_
  refine j_iconst (pc := 9) C dX1_keep_9 ?_
  refine j_bipush (pc := 10) C dX1_keep_10 (by decide +kernel) ?_
  refine j_cpy (pc := 12) C (C.w 3 rfl) (C.w 4 rfl) (C.w 5 rfl) (C.w 6 rfl) 2 8 0 rfl rfl rfl 12 (by decide) (by decide) (by decide) (by decide) (Nat.le_of_ble_eq_true rfl) dX1_keep_12 (ws' := wN h c1 th L K Dm S lo hi su db dy li so sp X (mix Dm ke 12) se) rfl ?_
  exact j_vret (pc := 15) C hr dX1_keep_15 (by rfl) (by decide) (by decide)
set_option maxHeartbeats 4000000 in
set_option maxRecDepth 100000 in
theorem kX1_bringBack (l : Launch) (D : va_G) (h : Nat → Nat) (c1 c2 c3 : ClassId) (th L : Int) (K Dm : Int → Int) (S : Int) (lo hi su db : Int → Int) (dy li so sp : Int) (X : Int → Int → Int) (ke se : Int → Int)  : cV l yX1_bringBack wsX1_bringBack ({ frames := 1, cells := 0, slots := 0, locals := 30 }) D (tyS c1 c2 c3) [.ref (h 0)] (wN h c1 th L K Dm S lo hi su db dy li so sp X ke se) (wN h c1 th L K (mix ke Dm 12) S lo hi su db dy li so sp X ke se) 0 0 := by
  refine cV.of (cc := cX1_bringBack) (maxL := 1) (by decide) rfl (lv := [(0, .ref (h 0))]) [0] rfl (Nat.le_of_ble_eq_true rfl) ?_
  intro p e s m args below meth c A C hr
  have C : GC p s m args meth c cX1_bringBack 1 RX1 wsX1_bringBack D (tyS c1 c2 c3) A := C
  have hin : ∀ w ∈ wsX10, w ∈ wsX1_bringBack := fun _ h => List.mem_cons_of_mem _ (List.mem_append_right _ h)
  refine j_aload_n (pc := 0) C dX1_bringBack_0 0 rfl ?_
  refine j_get (pc := 1) C (ref := "GrainSiloModel") (T := TX1) (N := 16) hin 0 rfl rfl 14 (by decide) (C.w 1 rfl) rfl rfl dX1_bringBack_1 ?_
  refine j_iconst (pc := 4) C dX1_bringBack_4 ?_
  refine j_aload_n (pc := 5) C dX1_bringBack_5 0 rfl ?_
  refine j_get (pc := 6) C (ref := "GrainSiloModel") (T := TX1) (N := 16) hin 0 rfl rfl 3 (by decide) (C.w 2 rfl) rfl rfl dX1_bringBack_6 ?_
  refine j_iconst (pc := 9) C dX1_bringBack_9 ?_
  refine j_bipush (pc := 10) C dX1_bringBack_10 (by decide +kernel) ?_
  refine j_cpy (pc := 12) C (C.w 3 rfl) (C.w 4 rfl) (C.w 5 rfl) (C.w 6 rfl) 8 2 0 rfl rfl rfl 12 (by decide) (by decide) (by decide) (by decide) (Nat.le_of_ble_eq_true rfl) dX1_bringBack_12 (ws' := wN h c1 th L K (mix ke Dm 12) S lo hi su db dy li so sp X ke se) rfl ?_
  exact j_vret (pc := 15) C hr dX1_bringBack_15 (by rfl) (by decide) (by decide)
set_option maxHeartbeats 4000000 in
set_option maxRecDepth 100000 in
theorem kX1_surely_t (l : Launch) (D : va_G) (h : Nat → Nat) (c1 c2 c3 : ClassId) (th L : Int) (K Dm : Int → Int) (S : Int) (lo hi su db : Int → Int) (dy li so sp : Int) (X : Int → Int → Int) (ke se : Int → Int) (hL0 : 0 ≤ L) (hL : L ≤ 12) (hl0 : 0 ≤ li) (hl1 : li ≤ 40) (hB : ∀ x y, 0 ≤ x → x ≤ L → 0 ≤ y → y ≤ L → -480 ≤ X x y ∧ X x y ≤ 1000000) : cI l yX1_surely wsX1_surely ({ frames := 1, cells := 0, slots := 0, locals := 22 }) D (tyS c1 c2 c3) [.ref (h 0), .int (zI 1)] (wN h c1 th L K Dm S lo hi su db dy li so sp X ke se) (wN h c1 th L K Dm S lo hi su db dy li so sp X ke se) (zI (nDry X li L)) 0 0 := by
  refine cI.of (cc := cX1_surely) (maxL := 4) (ret := .int) (by decide) rfl (lv := [(0, .ref (h 0)), (1, .int (zI 1))]) [0, 1] rfl (Nat.le_of_ble_eq_true rfl) ?_
  intro p e s m args below meth c A C hr
  have C : GC p s m args meth c cX1_surely 4 RX1 wsX1_surely D (tyS c1 c2 c3) A := C
  have hin : ∀ w ∈ wsX10, w ∈ wsX1_surely := fun _ h => List.mem_cons_of_mem _ (List.mem_append_right _ h)
  refine j_iconst (pc := 0) C dX1_surely_0 ?_
  refine j_istore_n (pc := 1) C (lv' := [(0, .ref (h 0)), (1, .int (zI 1)), (2, .int (zI 0))]) dX1_surely_1 (by decide) [1, 2, 0] rfl ?_
  refine j_iconst (pc := 2) C dX1_surely_2 ?_
  refine j_istore_n (pc := 3) C (lv' := [(0, .ref (h 0)), (1, .int (zI 1)), (2, .int (zI 0)), (3, .int (zI 0))]) dX1_surely_3 (by decide) [1, 2, 3, 0] rfl ?_
  refine J.cast (ws' := wN h c1 th L K Dm S lo hi su db dy li so sp X ke se) (lv' := [(0, .ref (h 0)), (1, .int (zI 1)), (2, .int (zI (zc (fun j => decide (X j (j + 1) ≤ li)) 0 0))), (3, .int (zI 0))]) ?_ (by rfl) (by rw [zc_0]) rfl
  refine j_up (fun i : Int => wN h c1 th L K Dm S lo hi su db dy li so sp X ke se) (fun i : Int => [(0, .ref (h 0)), (1, .int (zI 1)), (2, .int (zI (zc (fun j => decide (X j (j + 1) ≤ li)) 0 i))), (3, .int (zI i))]) (fun i : Int => True) 0 L (by omega) trivial ?_ ?_
  · intro i h0_4 h1_4 hI_4 hk_4
    try dsimp only at hI_4 hk_4 ⊢
    have q1 := hB i (i + 1) (by omega) (by omega) (by omega) (by omega)
    have q2 := hB (i + 1) i (by omega) (by omega) (by omega) (by omega)
    refine j_iload_n (pc := 4) C dX1_surely_4 3 rfl ?_
    refine j_aload_n (pc := 5) C dX1_surely_5 0 rfl ?_
    refine j_get (pc := 6) C (ref := "GrainSiloModel") (T := TX1) (N := 16) hin 0 rfl rfl 1 (by decide) (C.w 1 rfl) rfl rfl dX1_surely_6 ?_
    refine j_icmp_ge (pc := 9) C 64 dX1_surely_9 (by decide) ⟨by omega, by omega⟩ ⟨by omega, by omega⟩ (fun c_9 => absurd c_9 (by omega)) (fun c_9 => ?_)
    refine j_iload_n (pc := 12) C dX1_surely_12 2 rfl ?_
    refine j_iload_n (pc := 13) C dX1_surely_13 1 rfl ?_
    refine j_if_eq (pc := 14) C 38 dX1_surely_14 (by decide) ⟨by omega, by omega⟩ (fun c_14 => absurd c_14 (by omega)) (fun c_14 => ?_)
    refine j_aload_n (pc := 17) C dX1_surely_17 0 rfl ?_
    refine j_iload_n (pc := 18) C dX1_surely_18 3 rfl ?_
    refine j_iload_n (pc := 19) C dX1_surely_19 3 rfl ?_
    refine j_callI (pc := 20) C (As := [.int (zI i), .int (zI i)]) (rest := [.int (zI (zc (fun j => decide (X j (j + 1) ≤ li)) 0 i))]) (kX1_greatest l D h c1 c2 c3 th L K Dm S lo hi su db dy li so sp X ke se i i (by omega) (by omega) (by omega) (by omega)) (cwV 2 C.2.2.2.2.1 gX1_surely_X1_greatest rfl rfl rfl (by decide +kernel) ⟨Nat.le_of_ble_eq_true rfl, Nat.le_of_ble_eq_true rfl⟩) 0 (ci := 1) rfl rfl rfl dX1_surely_20 rfl rfl (Nat.le_of_ble_eq_true rfl) (by decide) ?_
    refine j_aload_n (pc := 23) C dX1_surely_23 0 rfl ?_
    refine j_get (pc := 24) C (ref := "GrainSiloModel") (T := TX1) (N := 16) hin 0 rfl rfl 10 (by decide) (C.w 2 rfl) rfl rfl dX1_surely_24 ?_
    refine j_icmp_gt (pc := 27) C 34 dX1_surely_27 (by decide) ⟨by omega, by omega⟩ ⟨by omega, by omega⟩ (fun c_27 => ?_) (fun c_27 => ?_)
    · skip
      have e2 : ¬ X i (i + 1) ≤ li := by omega
      refine j_iconst (pc := 34) C dX1_surely_34 ?_
      refine j_goto (pc := 35) C 56 dX1_surely_35 (by decide) ?_
      refine j_iadd (pc := 56) C dX1_surely_56 ?_
      refine j_istore_n (pc := 57) C (lv' := [(0, .ref (h 0)), (1, .int (zI 1)), (2, .int (zI ((zc (fun j => decide (X j (j + 1) ≤ li)) 0 i) + 0))), (3, .int (zI i))]) dX1_surely_57 (by decide) [1, 2, 0, 3] rfl ?_
      refine j_iinc (pc := 58) C (lv' := [(0, .ref (h 0)), (1, .int (zI 1)), (2, .int (zI ((zc (fun j => decide (X j (j + 1) ≤ li)) 0 i) + 0))), (3, .int (zI (i + 1)))]) dX1_surely_58 3 rfl (by decide) [1, 2, 3, 0] rfl ?_
      refine j_goto (pc := 61) C 4 dX1_surely_61 (by decide) ?_
      exact J.cast (hk_4 trivial) (by rfl) (by first | rw [zc_f (fun j => decide (X j (j + 1) ≤ li)) 0 i h0_4 (decide_eq_false e2), Int.add_zero] | rw [zc_t (fun j => decide (X j (j + 1) ≤ li)) 0 i h0_4 (decide_eq_true e2)]) rfl
    · skip
      have e2 : X i (i + 1) ≤ li := by omega
      refine j_iconst (pc := 30) C dX1_surely_30 ?_
      refine j_goto (pc := 31) C 56 dX1_surely_31 (by decide) ?_
      refine j_iadd (pc := 56) C dX1_surely_56 ?_
      refine j_istore_n (pc := 57) C (lv' := [(0, .ref (h 0)), (1, .int (zI 1)), (2, .int (zI ((zc (fun j => decide (X j (j + 1) ≤ li)) 0 i) + 1))), (3, .int (zI i))]) dX1_surely_57 (by decide) [1, 2, 0, 3] rfl ?_
      refine j_iinc (pc := 58) C (lv' := [(0, .ref (h 0)), (1, .int (zI 1)), (2, .int (zI ((zc (fun j => decide (X j (j + 1) ≤ li)) 0 i) + 1))), (3, .int (zI (i + 1)))]) dX1_surely_58 3 rfl (by decide) [1, 2, 3, 0] rfl ?_
      refine j_goto (pc := 61) C 4 dX1_surely_61 (by decide) ?_
      exact J.cast (hk_4 trivial) (by rfl) (by first | rw [zc_f (fun j => decide (X j (j + 1) ≤ li)) 0 i h0_4 (decide_eq_false e2), Int.add_zero] | rw [zc_t (fun j => decide (X j (j + 1) ≤ li)) 0 i h0_4 (decide_eq_true e2)]) rfl
  · intro hI_4
    try dsimp only at hI_4 ⊢
    refine j_iload_n (pc := 4) C dX1_surely_4 3 rfl ?_
    refine j_aload_n (pc := 5) C dX1_surely_5 0 rfl ?_
    refine j_get (pc := 6) C (ref := "GrainSiloModel") (T := TX1) (N := 16) hin 0 rfl rfl 1 (by decide) (C.w 1 rfl) rfl rfl dX1_surely_6 ?_
    refine j_icmp_ge (pc := 9) C 64 dX1_surely_9 (by decide) ⟨by omega, by omega⟩ ⟨by omega, by omega⟩ (fun c_9 => ?_) (fun c_9 => absurd c_9 (by omega))
    refine j_iload_n (pc := 64) C dX1_surely_64 2 rfl ?_
    exact j_iret (pc := 65) C hr dX1_surely_65 (by rfl) (by rfl) (by decide) (by decide)
set_option maxHeartbeats 4000000 in
set_option maxRecDepth 100000 in
theorem kX1_surely_f (l : Launch) (D : va_G) (h : Nat → Nat) (c1 c2 c3 : ClassId) (th L : Int) (K Dm : Int → Int) (S : Int) (lo hi su db : Int → Int) (dy li so sp : Int) (X : Int → Int → Int) (ke se : Int → Int) (hL0 : 0 ≤ L) (hL : L ≤ 12) (hl0 : 0 ≤ li) (hl1 : li ≤ 40) (hB : ∀ x y, 0 ≤ x → x ≤ L → 0 ≤ y → y ≤ L → -480 ≤ X x y ∧ X x y ≤ 1000000) : cI l yX1_surely wsX1_surely ({ frames := 1, cells := 0, slots := 0, locals := 22 }) D (tyS c1 c2 c3) [.ref (h 0), .int (zI 0)] (wN h c1 th L K Dm S lo hi su db dy li so sp X ke se) (wN h c1 th L K Dm S lo hi su db dy li so sp X ke se) (zI (nDamp X li L)) 0 0 := by
  refine cI.of (cc := cX1_surely) (maxL := 4) (ret := .int) (by decide) rfl (lv := [(0, .ref (h 0)), (1, .int (zI 0))]) [0, 1] rfl (Nat.le_of_ble_eq_true rfl) ?_
  intro p e s m args below meth c A C hr
  have C : GC p s m args meth c cX1_surely 4 RX1 wsX1_surely D (tyS c1 c2 c3) A := C
  have hin : ∀ w ∈ wsX10, w ∈ wsX1_surely := fun _ h => List.mem_cons_of_mem _ (List.mem_append_right _ h)
  refine j_iconst (pc := 0) C dX1_surely_0 ?_
  refine j_istore_n (pc := 1) C (lv' := [(0, .ref (h 0)), (1, .int (zI 0)), (2, .int (zI 0))]) dX1_surely_1 (by decide) [1, 2, 0] rfl ?_
  refine j_iconst (pc := 2) C dX1_surely_2 ?_
  refine j_istore_n (pc := 3) C (lv' := [(0, .ref (h 0)), (1, .int (zI 0)), (2, .int (zI 0)), (3, .int (zI 0))]) dX1_surely_3 (by decide) [1, 2, 3, 0] rfl ?_
  refine J.cast (ws' := wN h c1 th L K Dm S lo hi su db dy li so sp X ke se) (lv' := [(0, .ref (h 0)), (1, .int (zI 0)), (2, .int (zI (zc (fun j => decide (li < -(X (j + 1) j))) 0 0))), (3, .int (zI 0))]) ?_ (by rfl) (by rw [zc_0]) rfl
  refine j_up (fun i : Int => wN h c1 th L K Dm S lo hi su db dy li so sp X ke se) (fun i : Int => [(0, .ref (h 0)), (1, .int (zI 0)), (2, .int (zI (zc (fun j => decide (li < -(X (j + 1) j))) 0 i))), (3, .int (zI i))]) (fun i : Int => True) 0 L (by omega) trivial ?_ ?_
  · intro i h0_4 h1_4 hI_4 hk_4
    try dsimp only at hI_4 hk_4 ⊢
    have q1 := hB i (i + 1) (by omega) (by omega) (by omega) (by omega)
    have q2 := hB (i + 1) i (by omega) (by omega) (by omega) (by omega)
    refine j_iload_n (pc := 4) C dX1_surely_4 3 rfl ?_
    refine j_aload_n (pc := 5) C dX1_surely_5 0 rfl ?_
    refine j_get (pc := 6) C (ref := "GrainSiloModel") (T := TX1) (N := 16) hin 0 rfl rfl 1 (by decide) (C.w 1 rfl) rfl rfl dX1_surely_6 ?_
    refine j_icmp_ge (pc := 9) C 64 dX1_surely_9 (by decide) ⟨by omega, by omega⟩ ⟨by omega, by omega⟩ (fun c_9 => absurd c_9 (by omega)) (fun c_9 => ?_)
    refine j_iload_n (pc := 12) C dX1_surely_12 2 rfl ?_
    refine j_iload_n (pc := 13) C dX1_surely_13 1 rfl ?_
    refine j_if_eq (pc := 14) C 38 dX1_surely_14 (by decide) ⟨by omega, by omega⟩ (fun c_14 => ?_) (fun c_14 => absurd c_14 (by omega))
    refine j_aload_n (pc := 38) C dX1_surely_38 0 rfl ?_
    refine j_iload_n (pc := 39) C dX1_surely_39 3 rfl ?_
    refine j_iload_n (pc := 40) C dX1_surely_40 3 rfl ?_
    refine j_callI (pc := 41) C (As := [.int (zI i), .int (zI i)]) (rest := [.int (zI (zc (fun j => decide (li < -(X (j + 1) j))) 0 i))]) (kX1_least l D h c1 c2 c3 th L K Dm S lo hi su db dy li so sp X ke se i i (by omega) (by omega) (by omega) (by omega)) (cwV 2 C.2.2.2.2.1 gX1_surely_X1_least rfl rfl rfl (by decide +kernel) ⟨Nat.le_of_ble_eq_true rfl, Nat.le_of_ble_eq_true rfl⟩) 0 (ci := 1) rfl rfl rfl dX1_surely_41 rfl rfl (Nat.le_of_ble_eq_true rfl) (by decide) ?_
    refine j_aload_n (pc := 44) C dX1_surely_44 0 rfl ?_
    refine j_get (pc := 45) C (ref := "GrainSiloModel") (T := TX1) (N := 16) hin 0 rfl rfl 10 (by decide) (C.w 2 rfl) rfl rfl dX1_surely_45 ?_
    refine j_icmp_le (pc := 48) C 55 dX1_surely_48 (by decide) ⟨by omega, by omega⟩ ⟨by omega, by omega⟩ (fun c_48 => ?_) (fun c_48 => ?_)
    · skip
      have e2 : ¬ li < -(X (i + 1) i) := by omega
      refine j_iconst (pc := 55) C dX1_surely_55 ?_
      refine j_iadd (pc := 56) C dX1_surely_56 ?_
      refine j_istore_n (pc := 57) C (lv' := [(0, .ref (h 0)), (1, .int (zI 0)), (2, .int (zI ((zc (fun j => decide (li < -(X (j + 1) j))) 0 i) + 0))), (3, .int (zI i))]) dX1_surely_57 (by decide) [1, 2, 0, 3] rfl ?_
      refine j_iinc (pc := 58) C (lv' := [(0, .ref (h 0)), (1, .int (zI 0)), (2, .int (zI ((zc (fun j => decide (li < -(X (j + 1) j))) 0 i) + 0))), (3, .int (zI (i + 1)))]) dX1_surely_58 3 rfl (by decide) [1, 2, 3, 0] rfl ?_
      refine j_goto (pc := 61) C 4 dX1_surely_61 (by decide) ?_
      exact J.cast (hk_4 trivial) (by rfl) (by first | rw [zc_f (fun j => decide (li < -(X (j + 1) j))) 0 i h0_4 (decide_eq_false e2), Int.add_zero] | rw [zc_t (fun j => decide (li < -(X (j + 1) j))) 0 i h0_4 (decide_eq_true e2)]) rfl
    · skip
      have e2 : li < -(X (i + 1) i) := by omega
      refine j_iconst (pc := 51) C dX1_surely_51 ?_
      refine j_goto (pc := 52) C 56 dX1_surely_52 (by decide) ?_
      refine j_iadd (pc := 56) C dX1_surely_56 ?_
      refine j_istore_n (pc := 57) C (lv' := [(0, .ref (h 0)), (1, .int (zI 0)), (2, .int (zI ((zc (fun j => decide (li < -(X (j + 1) j))) 0 i) + 1))), (3, .int (zI i))]) dX1_surely_57 (by decide) [1, 2, 0, 3] rfl ?_
      refine j_iinc (pc := 58) C (lv' := [(0, .ref (h 0)), (1, .int (zI 0)), (2, .int (zI ((zc (fun j => decide (li < -(X (j + 1) j))) 0 i) + 1))), (3, .int (zI (i + 1)))]) dX1_surely_58 3 rfl (by decide) [1, 2, 3, 0] rfl ?_
      refine j_goto (pc := 61) C 4 dX1_surely_61 (by decide) ?_
      exact J.cast (hk_4 trivial) (by rfl) (by first | rw [zc_f (fun j => decide (li < -(X (j + 1) j))) 0 i h0_4 (decide_eq_false e2), Int.add_zero] | rw [zc_t (fun j => decide (li < -(X (j + 1) j))) 0 i h0_4 (decide_eq_true e2)]) rfl
  · intro hI_4
    try dsimp only at hI_4 ⊢
    refine j_iload_n (pc := 4) C dX1_surely_4 3 rfl ?_
    refine j_aload_n (pc := 5) C dX1_surely_5 0 rfl ?_
    refine j_get (pc := 6) C (ref := "GrainSiloModel") (T := TX1) (N := 16) hin 0 rfl rfl 1 (by decide) (C.w 1 rfl) rfl rfl dX1_surely_6 ?_
    refine j_icmp_ge (pc := 9) C 64 dX1_surely_9 (by decide) ⟨by omega, by omega⟩ ⟨by omega, by omega⟩ (fun c_9 => ?_) (fun c_9 => absurd c_9 (by omega))
    refine j_iload_n (pc := 64) C dX1_surely_64 2 rfl ?_
    exact j_iret (pc := 65) C hr dX1_surely_65 (by rfl) (by rfl) (by decide) (by decide)
