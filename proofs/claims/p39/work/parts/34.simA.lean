/-! ===== Sim: rows and samples ===== -/
set_option maxHeartbeats 4000000 in
set_option maxRecDepth 100000 in
theorem kL_below (l : Launch) (D : va_G) (c1 c2 c3 : ClassId) (v n : Int) (h1 : 1 ≤ n) (h2 : n < 2147483648) : cI l yL_below wsL_below ({ frames := 0, cells := 0, slots := 0, locals := 0 }) D (tyS c1 c2 c3) [.int (zI v), .int (zI n)] ([]) ([]) (zI (bl v n)) 0 0 := by
  refine cI.of (cc := cL_below) (maxL := 2) (ret := .int) (by decide) rfl (lv := [(0, .int (zI v)), (1, .int (zI n))]) [0, 1] rfl (Nat.le_of_ble_eq_true rfl) ?_
  intro p e s m args below meth c A C hr
  have C : GC p s m args meth c cL_below 2 RL wsL_below D (tyS c1 c2 c3) A := C
  refine J.cast (ws' := []) (lv' := [(0, .int (zI v)), (1, .int (zI n))]) (st' := []) ?_ (by rfl) rfl rfl
  refine j_iload_n (pc := 0) C dL_below_0 0 rfl ?_
  refine j_ldc (pc := 1) C (z := 2147483647) (C.w 1 rfl) (by decide +kernel) dL_below_1 ?_
  refine j_iand (pc := 3) C dL_below_3 ?_
  refine j_iload_n (pc := 4) C dL_below_4 1 rfl ?_
  refine j_irem (pc := 5) C (v := zI (bl v n)) (fun q9 => by have q8 := (zI_eq0 (a := n) ⟨by omega, by omega⟩).mp q9; omega) (bl_eq v n (by omega) (by omega)) dL_below_5 ?_
  exact j_iret (pc := 6) C hr dL_below_6 (by rfl) (by rfl) (by decide) (by decide)
set_option maxHeartbeats 4000000 in
set_option maxRecDepth 100000 in
theorem kX1_with (l : Launch) (D : va_G) (c1 c2 c3 : ClassId) (w : va_W) (a v n : Nat) (r : Nat → Nat) (hn : n ≤ 16) (ha : ∃ k : Nat, w[k]? = some (a, eRef c2 n r)) (hrw : ∀ j, j < n → ∃ (k : Nat) (x : vp_A), w[k]? = some (r j, eRow c1 x)) (hv : ∃ (k : Nat) (x : vp_A), w[k]? = some (v, eRow c1 x)) : eR l yX1_with wsX1_with ({ frames := 0, cells := 1, slots := 17, locals := 0 }) D (tyS c1 c2 c3) [.ref a, .ref v] (w) E1 (fun (u9 : Nat) => True) (fun (u9 : Nat) => w ++ gR c2 u9 (n + 1) (fun j => if j < n then r j else v)) (fun (u9 : Nat) => u9) 1 17 := by
  refine eR.of (cc := cX1_with) (maxL := 4) (ret := .array (.array .int)) (by decide) rfl (lv := [(0, .ref a), (1, .ref v)]) [0, 1] rfl (Nat.le_of_ble_eq_true rfl) ?_
  intro p e s m args below meth c A C hr hE hAw
  have ho : va_AOA .int s := hE
  have C : GC p s m args meth c cX1_with 4 RX1 wsX1_with D (tyS c1 c2 c3) A := C
  obtain ⟨ka, hka⟩ := ha
  obtain ⟨kv, xv, hkv⟩ := hv
  refine j_aload_n (pc := 0) C dX1_with_0 0 rfl ?_
  refine j_alen (pc := 1) C _ 1 hka rfl (z := (n : Int)) (alen_eq (by omega) (by omega)) dX1_with_1 ?_
  refine j_iconst (pc := 2) C dX1_with_2 ?_
  refine j_iadd (pc := 3) C dX1_with_3 ?_
  refine j_newR (pc := 4) C ho 0 1 rfl rfl (C.w 1 rfl) (n := n + 1) (by omega) (by omega) (by show _ ≤ 1; omega) (by show _ ≤ 17; omega) dX1_with_4 (fun q1_ => ?_)
  refine J.perm (ws' := gN c2 q1_ (n + 1) (fun _ => none) ++ (w)) (List.Perm.trans (List.Perm.of_eq (show _ = (w) ++ (gN c2 q1_ (n + 1) (fun _ => none)) from rfl)) (perm_of_count (fun cnt h1_ h0_ => by simp only [wU, wS, wGS, h1_, h0_] <;> omega))) ?_
  refine j_astore_n (pc := 7) C (lv' := [(0, .ref a), (1, .ref v), (2, .ref q1_)]) dX1_with_7 (by decide) [1, 2, 0] rfl ?_
  refine j_iconst (pc := 8) C dX1_with_8 ?_
  refine j_istore_n (pc := 9) C (lv' := [(0, .ref a), (1, .ref v), (2, .ref q1_), (3, .int (zI 0))]) dX1_with_9 (by decide) [1, 2, 3, 0] rfl ?_
  refine J.cast (ws' := gN c2 q1_ (n + 1) (fun j => if j < ((0 : Int)).toNat then some (r j) else none) ++ (w)) (lv' := [(0, .ref a), (1, .ref v), (2, .ref q1_), (3, .int (zI (((0 : Int)))))]) ?_ (by rw [up_none0 r]) (by rfl) rfl
  refine J.widen (k := 1) (n := n + 1) (by omega) (by omega) ?_
  refine j_loop (X := Unit) (fun (i : Int) x9 => gN c2 q1_ (n + 1) (fun j => if j < i.toNat then some (r j) else none) ++ (w)) (fun (i : Int) x9 => [(0, .ref a), (1, .ref v), (2, .ref q1_), (3, .int (zI i))]) (fun (i : Int) x9 => True) (fun (i : Int) => 1) (fun (i : Int) => n + 1) (0 : Int) ((n : Int)) (by omega) ?_ ?_ () trivial
  · intro i x9 h0_10 h1_10 hI_10 hk_10
    try dsimp only at hI_10 hk_10 ⊢
    refine j_iload_n (pc := 10) C dX1_with_10 3 rfl ?_
    refine j_aload_n (pc := 11) C dX1_with_11 0 rfl ?_
    refine j_alen (pc := 12) C _ 1 (At.r hka) rfl (z := (n : Int)) (alen_eq (by omega) (by omega)) dX1_with_12 ?_
    refine j_icmp_ge (pc := 13) C 28 dX1_with_13 (by decide) ⟨by omega, by omega⟩ ⟨by omega, by omega⟩ (fun c_13 => absurd c_13 (by omega)) (fun c_13 => ?_)
    refine j_aload_n (pc := 16) C dX1_with_16 2 rfl ?_
    refine j_iload_n (pc := 17) C dX1_with_17 3 rfl ?_
    refine j_aload_n (pc := 18) C dX1_with_18 0 rfl ?_
    refine j_iload_n (pc := 19) C dX1_with_19 3 rfl ?_
    refine j_aald (pc := 20) C _ 1 (g := r) (At.r hka) rfl (by omega) (by omega) (by omega) dX1_with_20 ?_
    obtain ⟨kj, xj, hkj⟩ := hrw i.toNat (by omega)
    refine j_aastA (pc := 21) C ho _ _ 0 1 (At.l (k := 0) rfl) rfl rfl (At.r hkj) (by omega) (by omega) (by omega) (ws' := gN c2 q1_ (n + 1) (va_up (fun j => if j < i.toNat then some (r j) else none) i.toNat (some (r i.toNat))) ++ (w)) (Pu.l (k := 0) (hk := rfl) rfl) dX1_with_21 ?_
    refine j_iinc (pc := 22) C (x := i) (lv' := [(0, .ref a), (1, .ref v), (2, .ref q1_), (3, .int (zI (i + 1)))]) dX1_with_22 3 rfl (by decide) [1, 2, 3, 0] rfl ?_
    refine j_goto (pc := 25) C 10 dX1_with_25 (by decide) ?_
    exact J.widen (by omega) (by omega) (J.cast (hk_10 () trivial) (by rw [up_none r h0_10]) (by rfl) rfl)
  · intro x9 hI_10
    try dsimp only at hI_10 ⊢
    refine j_iload_n (pc := 10) C dX1_with_10 3 rfl ?_
    refine j_aload_n (pc := 11) C dX1_with_11 0 rfl ?_
    refine j_alen (pc := 12) C _ 1 (At.r hka) rfl (z := (n : Int)) (alen_eq (by omega) (by omega)) dX1_with_12 ?_
    refine j_icmp_ge (pc := 13) C 28 dX1_with_13 (by decide) ⟨by omega, by omega⟩ ⟨by omega, by omega⟩ (fun c_13 => ?_) (fun c_13 => absurd c_13 (by omega))
    refine j_aload_n (pc := 28) C dX1_with_28 2 rfl ?_
    refine j_aload_n (pc := 29) C dX1_with_29 0 rfl ?_
    refine j_alen (pc := 30) C _ 1 (At.r hka) rfl (z := (n : Int)) (alen_eq (by omega) (by omega)) dX1_with_30 ?_
    refine j_aload_n (pc := 31) C dX1_with_31 1 rfl ?_
    refine j_aastA (pc := 32) C ho _ _ 0 1 (At.l (k := 0) rfl) rfl rfl (At.r hkv) (by omega) (by omega) (by omega) (ws' := gN c2 q1_ (n + 1) (va_up (fun j => if j < (((n : Int))).toNat then some (r j) else none) ((n : Int)).toNat (some v)) ++ (w)) (Pu.l (k := 0) (hk := rfl) rfl) dX1_with_32 ?_
    refine J.cell (ws' := gR c2 q1_ (n + 1) (fun j => if j < n then r j else v) ++ (w)) _ (At.l (k := 0) rfl) (Pu.l (k := 0) (hk := rfl) rfl) (gN_cell c2 _ _ _ (with_fin r v n)) ?_
    refine j_aload_n (pc := 33) C dX1_with_33 2 rfl ?_
    refine J.sub (ws' := w ++ (gR c2 q1_ (n + 1) (fun j => if j < n then r j else v))) (rest := []) (perm_of_count (fun cnt h1_ h0_ => by simp only [wU, wS, wGS, h1_, h0_] <;> omega)) ?_
    exact j_aretE (pc := 34) C hr (Or.inr ⟨_, rfl⟩) dX1_with_34 q1_ trivial (by rfl) (by rfl) (by omega) (by omega)
set_option maxHeartbeats 4000000 in
set_option maxRecDepth 100000 in
theorem kX1_without (l : Launch) (D : va_G) (c1 c2 c3 : ClassId) (w : va_W) (a n : Nat) (r : Nat → Nat) (one : Int) (hn : n ≤ 16) (h0 : 0 ≤ one) (h1 : one < n) (ha : ∃ k : Nat, w[k]? = some (a, eRef c2 n r)) (hrw : ∀ j, j < n → ∃ (k : Nat) (x : vp_A), w[k]? = some (r j, eRow c1 x)) : eR l yX1_without wsX1_without ({ frames := 1, cells := 17, slots := 272, locals := 23 }) D (tyS c1 c2 c3) [.ref a, .int (zI one)] (w) E1 (fun (u9 : Nat) => True) (fun (u9 : Nat) => w ++ gR c2 u9 (n - 1) (sk r one.toNat)) (fun (u9 : Nat) => u9) 17 272 := by
  refine eR.of (cc := cX1_without) (maxL := 4) (ret := .array (.array .int)) (by decide) rfl (lv := [(0, .ref a), (1, .int (zI one))]) [0, 1] rfl (Nat.le_of_ble_eq_true rfl) ?_
  intro p e s m args below meth c A C hr hE hAw
  have ho : va_AOA .int s := hE
  have C : GC p s m args meth c cX1_without 4 RX1 wsX1_without D (tyS c1 c2 c3) A := C
  obtain ⟨ka, hka⟩ := ha
  refine j_iconst (pc := 0) C dX1_without_0 ?_
  refine j_newR (pc := 1) C ho 0 1 rfl rfl (C.w 1 rfl) (n := 0) (by omega) (by omega) (by show _ ≤ 17; omega) (by show _ ≤ 272; omega) dX1_without_1 (fun q1_ => ?_)
  refine J.perm (ws' := gN c2 q1_ 0 (fun _ => none) ++ (w)) (List.Perm.trans (List.Perm.of_eq (show _ = (w) ++ (gN c2 q1_ 0 (fun _ => none)) from rfl)) (perm_of_count (fun cnt h1_ h0_ => by simp only [wU, wS, wGS, h1_, h0_] <;> omega))) ?_
  refine J.cell (ws' := gR c2 q1_ 0 (sk r one.toNat) ++ (w)) _ (At.l (k := 0) rfl) (Pu.l (k := 0) (hk := rfl) rfl) (gN0 c2 _) ?_
  refine j_astore_n (pc := 4) C (lv' := [(0, .ref a), (1, .int (zI one)), (2, .ref q1_)]) dX1_without_4 (by decide) [1, 2, 0] rfl ?_
  refine j_iconst (pc := 5) C dX1_without_5 ?_
  refine j_istore_n (pc := 6) C (lv' := [(0, .ref a), (1, .int (zI one)), (2, .ref q1_), (3, .int (zI 0))]) dX1_without_6 (by decide) [1, 2, 3, 0] rfl ?_
  refine J.cast (ws' := gR c2 q1_ (if ((0 : Int)) ≤ one then ((0 : Int)).toNat else ((0 : Int)).toNat - 1) (sk r one.toNat) ++ (w)) (lv' := [(0, .ref a), (1, .int (zI one)), (2, .ref q1_), (3, .int (zI (((0 : Int)))))]) ?_ (by rw [if_pos h0]; rfl) (by rfl) rfl
  refine J.widen (k := 1 + ((0 : Int)).toNat) (n := 17 * ((0 : Int)).toNat) (by omega) (by omega) ?_
  refine j_loop (X := Nat) (fun (k : Int) x9 => gR c2 x9 (if k ≤ one then k.toNat else k.toNat - 1) (sk r one.toNat) ++ (w)) (fun (k : Int) x9 => [(0, .ref a), (1, .int (zI one)), (2, .ref x9), (3, .int (zI k))]) (fun (k : Int) x9 => True) (fun (k : Int) => 1 + k.toNat) (fun (k : Int) => 17 * k.toNat) (0 : Int) ((n : Int)) (by omega) ?_ ?_ q1_ trivial
  · intro k x9 h0_7 h1_7 hI_7 hk_7
    generalize x9 = u at hI_7 hk_7 ⊢
    try dsimp only at hI_7 hk_7 ⊢
    refine j_iload_n (pc := 7) C dX1_without_7 3 rfl ?_
    refine j_aload_n (pc := 8) C dX1_without_8 0 rfl ?_
    refine j_alen (pc := 9) C _ 1 (At.r hka) rfl (z := (n : Int)) (alen_eq (by omega) (by omega)) dX1_without_9 ?_
    refine j_icmp_ge (pc := 10) C 32 dX1_without_10 (by decide) ⟨by omega, by omega⟩ ⟨by omega, by omega⟩ (fun c_10 => absurd c_10 (by omega)) (fun c_10 => ?_)
    refine j_iload_n (pc := 13) C dX1_without_13 3 rfl ?_
    refine j_iload_n (pc := 14) C dX1_without_14 1 rfl ?_
    refine j_icmp_eq (pc := 15) C 26 dX1_without_15 (by decide) ⟨by omega, by omega⟩ ⟨by omega, by omega⟩ (fun c_15 => ?_) (fun c_15 => ?_)
    · skip
      refine j_iinc (pc := 26) C (x := k) (lv' := [(0, .ref a), (1, .int (zI one)), (2, .ref u), (3, .int (zI (k + 1)))]) dX1_without_26 3 rfl (by decide) [1, 2, 3, 0] rfl ?_
      refine j_goto (pc := 29) C 7 dX1_without_29 (by decide) ?_
      exact J.widen (by omega) (by omega) (J.cast (hk_7 u trivial) (by rw [show (if k + 1 ≤ one then (k + 1).toNat else (k + 1).toNat - 1) = (if k ≤ one then k.toNat else k.toNat - 1) by split <;> split <;> omega]) (by rfl) rfl)
    · skip
      refine j_aload_n (pc := 18) C dX1_without_18 2 rfl ?_
      refine j_aload_n (pc := 19) C dX1_without_19 0 rfl ?_
      refine j_iload_n (pc := 20) C dX1_without_20 3 rfl ?_
      refine j_aald (pc := 21) C _ 1 (g := r) (At.r hka) rfl (by omega) (by omega) (by omega) dX1_without_21 ?_
      refine J.cast (ws' := (gR c2 u (if k ≤ one then k.toNat else k.toNat - 1) (sk r one.toNat) ++ (w)) ++ []) ?_ (List.append_nil _).symm rfl rfl
      refine j_callSER (pc := 22) C E1.be (E1.he ho) (As := [.ref u, .ref (r k.toNat)]) (rest := []) (w0 := gR c2 u (if k ≤ one then k.toNat else k.toNat - 1) (sk r one.toNat) ++ (w)) (wr := []) (kX1_with l D c1 c2 c3 (gR c2 u (if k ≤ one then k.toNat else k.toNat - 1) (sk r one.toNat) ++ (w)) u (r k.toNat) (if k ≤ one then k.toNat else k.toNat - 1) (sk r one.toNat) (by split <;> omega) ⟨_, (At.l (k := 0) rfl)⟩ (fun j hj => by obtain ⟨t9, ht9, e9⟩ : ∃ t, t < n ∧ sk r one.toNat j = r t := (if h9 : j < one.toNat then ⟨j, by split at hj <;> omega, if_pos h9⟩ else ⟨j + 1, by split at hj <;> omega, if_neg h9⟩); obtain ⟨k9, x9, h9⟩ := hrw t9 ht9; exact ⟨_, x9, by rw [e9]; exact At.r h9⟩) (by obtain ⟨k9, x9, h9⟩ := hrw k.toNat (by omega); exact ⟨_, x9, At.r h9⟩)) (va_cwS 2 C.2.2.2.2.1 gX1_without_X1_with rfl rfl rfl (by decide +kernel) ⟨Nat.le_of_ble_eq_true rfl, Nat.le_of_ble_eq_true rfl⟩) dX1_without_22 rfl rfl (Nat.le_of_ble_eq_true rfl) ⟨(by show _ ≤ 17; omega), (by show _ ≤ 272; omega)⟩ (fun u2_ _ => ?_)
      refine J.sub (ws' := gR c2 u2_ ((if k ≤ one then k.toNat else k.toNat - 1) + 1) (fun j => if j < if k ≤ one then k.toNat else k.toNat - 1 then (sk r one.toNat) j else (r k.toNat)) ++ (gR c2 u (if k ≤ one then k.toNat else k.toNat - 1) (sk r one.toNat) ++ (w))) (rest := []) (perm_of_count (fun cnt h1_ h0_ => by simp only [wU, wS, wGS, h1_, h0_] <;> omega)) ?_
      refine J.sub (ws' := gR c2 u2_ ((if k ≤ one then k.toNat else k.toNat - 1) + 1) (fun j => if j < if k ≤ one then k.toNat else k.toNat - 1 then (sk r one.toNat) j else (r k.toNat)) ++ (w)) (rest := gR c2 u (if k ≤ one then k.toNat else k.toNat - 1) (sk r one.toNat)) (perm_of_count (fun cnt h1_ h0_ => by simp only [wU, wS, wGS, h1_, h0_] <;> omega)) ?_
      refine J.cell (ws' := gR c2 u2_ ((if k ≤ one then k.toNat else k.toNat - 1) + 1) (sk r one.toNat) ++ (w)) _ (At.l (k := 0) rfl) (Pu.l (k := 0) (hk := rfl) rfl) (gR_cell c2 _ _ _ (fun j hj => by unfold sk; by_cases h9 : k ≤ one <;> by_cases h8 : j < (if k ≤ one then k.toNat else k.toNat - 1) <;> simp only [h9, if_true, if_false] at hj h8 ⊢ <;> simp only [h8, if_true, if_false] <;> (try (by_cases h7 : j < one.toNat <;> simp only [h7, if_true, if_false])) <;> first | rfl | (exfalso; omega) | (congr 1; omega))) ?_
      refine j_astore_n (pc := 25) C (lv' := [(0, .ref a), (1, .int (zI one)), (2, .ref u2_), (3, .int (zI k))]) dX1_without_25 (by decide) [1, 2, 0, 3] rfl ?_
      refine j_iinc (pc := 26) C (x := k) (lv' := [(0, .ref a), (1, .int (zI one)), (2, .ref u2_), (3, .int (zI (k + 1)))]) dX1_without_26 3 rfl (by decide) [1, 2, 3, 0] rfl ?_
      refine j_goto (pc := 29) C 7 dX1_without_29 (by decide) ?_
      exact J.widen (by omega) (by omega) (J.cast (hk_7 u2_ trivial) (by rw [show (if k + 1 ≤ one then (k + 1).toNat else (k + 1).toNat - 1) = (if k ≤ one then k.toNat else k.toNat - 1) + 1 by split <;> split <;> omega]) (by rfl) rfl)
  · intro x9 hI_7
    generalize x9 = u at hI_7 ⊢
    try dsimp only at hI_7 ⊢
    refine j_iload_n (pc := 7) C dX1_without_7 3 rfl ?_
    refine j_aload_n (pc := 8) C dX1_without_8 0 rfl ?_
    refine j_alen (pc := 9) C _ 1 (At.r hka) rfl (z := (n : Int)) (alen_eq (by omega) (by omega)) dX1_without_9 ?_
    refine j_icmp_ge (pc := 10) C 32 dX1_without_10 (by decide) ⟨by omega, by omega⟩ ⟨by omega, by omega⟩ (fun c_10 => ?_) (fun c_10 => absurd c_10 (by omega))
    refine j_aload_n (pc := 32) C dX1_without_32 2 rfl ?_
    refine J.sub (ws' := w ++ (gR c2 u (if (((n : Int))) ≤ one then (((n : Int))).toNat else (((n : Int))).toNat - 1) (sk r one.toNat))) (rest := []) (perm_of_count (fun cnt h1_ h0_ => by simp only [wU, wS, wGS, h1_, h0_] <;> omega)) ?_
    exact j_aretE (pc := 33) C hr (Or.inr ⟨_, rfl⟩) dX1_without_33 u trivial (by rfl) (by rw [show (if (n : Int) ≤ one then ((n : Int)).toNat else ((n : Int)).toNat - 1) = n - 1 by rw [if_neg (by omega)]; omega]) (by omega) (by omega)
set_option maxHeartbeats 4000000 in
set_option maxRecDepth 100000 in
theorem kX1_added (l : Launch) (D : va_G) (c1 c2 c3 : ClassId) (o la sa : Nat) (r q : Nat → Nat) (dy li so sp L : Int) (K Dm : Int → Int) (S : Int) (lo hi su db : Int → Int) (a b : Int) (h0 : 0 ≤ a) (h1 : a ≤ b + 1) (h2 : b < L) (hL : L ≤ 12) : cI l yX1_added wsX1_added ({ frames := 0, cells := 0, slots := 0, locals := 0 }) D (tyS c1 c2 c3) [.ref o, .int (zI a), .int (zI b)] (wS c1 c2 o la sa r q dy li so sp L K Dm S lo hi su db) (wS c1 c2 o la sa r q dy li so sp L K Dm S lo hi su db) (zI (zs Dm a (b + 1))) 0 0 := by
  refine cI.of (cc := cX1_added) (maxL := 5) (ret := .int) (by decide) rfl (lv := [(0, .ref o), (1, .int (zI a)), (2, .int (zI b))]) [0, 1, 2] rfl (Nat.le_of_ble_eq_true rfl) ?_
  intro p e s m args below meth c A C hr
  have C : GC p s m args meth c cX1_added 5 RX1 wsX1_added D (tyS c1 c2 c3) A := C
  have hin : ∀ w ∈ wsX10, w ∈ wsX1_added := fun _ h => List.mem_cons_of_mem _ (List.mem_append_right _ h)
  refine J.cast (ws' := gO o la sa dy li so sp ++ (gR c2 la L.toNat r ++ (gR c2 sa S.toNat q ++ (gB c1 r L.toNat 2 (fL K Dm) ++ (gB c1 q S.toNat 4 (fS lo hi su db) ++ ([])))))) (lv' := [(0, .ref o), (1, .int (zI a)), (2, .int (zI b))]) (st' := []) ?_ (by rfl) rfl rfl
  refine j_iconst (pc := 0) C dX1_added_0 ?_
  refine j_istore_n (pc := 1) C (lv' := [(0, .ref o), (1, .int (zI a)), (2, .int (zI b)), (3, .int (zI 0))]) dX1_added_1 (by decide) [1, 2, 3, 0] rfl ?_
  refine j_iload_n (pc := 2) C dX1_added_2 1 rfl ?_
  refine j_istore (pc := 3) C (lv' := [(0, .ref o), (1, .int (zI a)), (2, .int (zI b)), (3, .int (zI 0)), (4, .int (zI a))]) dX1_added_3 (by decide) [1, 2, 3, 4, 0] rfl ?_
  refine J.cast (ws' := gO o la sa dy li so sp ++ (gR c2 la L.toNat r ++ (gR c2 sa S.toNat q ++ (gB c1 r L.toNat 2 (fL K Dm) ++ (gB c1 q S.toNat 4 (fS lo hi su db) ++ ([])))))) (lv' := [(0, .ref o), (1, .int (zI a)), (2, .int (zI b)), (3, .int (zI (zs Dm a a))), (4, .int (zI a))]) ?_ (by rfl) (by rw [zs_0]) rfl
  refine J.widen (k := 0) (n := 0) (by omega) (by omega) ?_
  refine j_loop (X := Unit) (fun (i : Int) x9 => gO o la sa dy li so sp ++ (gR c2 la L.toNat r ++ (gR c2 sa S.toNat q ++ (gB c1 r L.toNat 2 (fL K Dm) ++ (gB c1 q S.toNat 4 (fS lo hi su db) ++ ([])))))) (fun (i : Int) x9 => [(0, .ref o), (1, .int (zI a)), (2, .int (zI b)), (3, .int (zI (zs Dm a i))), (4, .int (zI i))]) (fun (i : Int) x9 => True) (fun (i : Int) => 0) (fun (i : Int) => 0) a (b + 1) (by omega) ?_ ?_ () trivial
  · intro i x9 h0_5 h1_5 hI_5 hk_5
    try dsimp only at hI_5 hk_5 ⊢
    refine j_iload (pc := 5) C dX1_added_5 4 rfl ?_
    refine j_iload_n (pc := 7) C dX1_added_7 2 rfl ?_
    refine j_icmp_gt (pc := 8) C 29 dX1_added_8 (by decide) ⟨by omega, by omega⟩ ⟨by omega, by omega⟩ (fun c_8 => absurd c_8 (by omega)) (fun c_8 => ?_)
    refine j_iload_n (pc := 11) C dX1_added_11 3 rfl ?_
    refine j_aload_n (pc := 12) C dX1_added_12 0 rfl ?_
    refine j_get (pc := 13) C (ref := "GrainSiloLaw$Sim") (T := TX1) (N := 6) hin _ (At.l (k := 0) rfl) rfl 4 (by decide) (C.w 1 rfl) rfl rfl dX1_added_13 ?_
    refine j_iload (pc := 16) C dX1_added_16 4 rfl ?_
    refine j_aald (pc := 18) C _ 1 (g := r) (At.r (At.l (k := 0) rfl)) rfl (by omega) (by omega) (by omega) dX1_added_18 ?_
    refine j_iconst (pc := 19) C dX1_added_19 ?_
    refine j_iald (pc := 20) C _ 0 (At.r (At.r (At.r (At.l (gB_at (by omega) (by omega)))))) rfl (by omega) (by omega) (by omega) dX1_added_20 ?_
    refine J.cast (ws' := gO o la sa dy li so sp ++ (gR c2 la L.toNat r ++ (gR c2 sa S.toNat q ++ (gB c1 r L.toNat 2 (fL K Dm) ++ (gB c1 q S.toNat 4 (fS lo hi su db) ++ ([])))))) (lv' := [(0, .ref o), (1, .int (zI a)), (2, .int (zI b)), (3, .int (zI (zs Dm a i))), (4, .int (zI i))]) (st' := [.int (zI (Dm i)), .int (zI (zs Dm a i))]) ?_ rfl rfl rfl
    refine j_iadd (pc := 21) C dX1_added_21 ?_
    refine j_istore_n (pc := 22) C (lv' := [(0, .ref o), (1, .int (zI a)), (2, .int (zI b)), (3, .int (zI ((zs Dm a i) + (Dm i)))), (4, .int (zI i))]) dX1_added_22 (by decide) [1, 2, 3, 0, 4] rfl ?_
    refine j_iinc (pc := 23) C (x := i) (lv' := [(0, .ref o), (1, .int (zI a)), (2, .int (zI b)), (3, .int (zI ((zs Dm a i) + (Dm i)))), (4, .int (zI (i + 1)))]) dX1_added_23 4 rfl (by decide) [1, 2, 3, 4, 0] rfl ?_
    refine j_goto (pc := 26) C 5 dX1_added_26 (by decide) ?_
    exact J.widen (by omega) (by omega) (J.cast (hk_5 () trivial) (by rfl) (by rw [zs_up Dm a i (by omega)]) rfl)
  · intro x9 hI_5
    try dsimp only at hI_5 ⊢
    refine j_iload (pc := 5) C dX1_added_5 4 rfl ?_
    refine j_iload_n (pc := 7) C dX1_added_7 2 rfl ?_
    refine j_icmp_gt (pc := 8) C 29 dX1_added_8 (by decide) ⟨by omega, by omega⟩ ⟨by omega, by omega⟩ (fun c_8 => ?_) (fun c_8 => absurd c_8 (by omega))
    refine j_iload_n (pc := 29) C dX1_added_29 3 rfl ?_
    exact j_iret (pc := 30) C hr dX1_added_30 (by rfl) (by rfl) (by decide) (by decide)
set_option maxHeartbeats 4000000 in
set_option maxRecDepth 100000 in
theorem kX1_draw (l : Launch) (D : va_G) (c1 c2 c3 : ClassId) (o la sa : Nat) (r q : Nat → Nat) (dy li so sp L : Int) (K Dm : Int → Int) (S : Int) (lo hi su db : Int → Int) (a b : Int) (h0 : 0 ≤ a) (h1 : a ≤ b) (h2 : b < L) (hL : L ≤ 12) (hS0 : 0 ≤ S) (hS : S < 16) : eI l yX1_draw wsX1_draw ({ frames := 1, cells := 2, slots := 21, locals := 24 }) D (tyS c1 c2 c3) [.ref o, .int (zI a), .int (zI b)] (wS c1 c2 o la sa r q dy li so sp L K Dm S lo hi su db) E1 (fun (u9 : Nat × Nat) => True) (fun (u9 : Nat × Nat) => wS c1 c2 o la u9.1 r (fun j => if j < S.toNat then q j else u9.2) dy li so sp L K Dm (S + 1) (upZ lo S a) (upZ hi S b) (upZ su S (zs Dm a (b + 1))) (upZ db S 0)) (fun (u9 : Nat × Nat) => zI (zs Dm a (b + 1))) 2 21 := by
  refine eI.of (cc := cX1_draw) (maxL := 3) (ret := .int) (by decide) rfl (lv := [(0, .ref o), (1, .int (zI a)), (2, .int (zI b))]) [0, 1, 2] rfl (Nat.le_of_ble_eq_true rfl) ?_
  intro p e s m args below meth c A C hr hE hAw
  have ho : va_AOA .int s := hE
  have C : GC p s m args meth c cX1_draw 3 RX1 wsX1_draw D (tyS c1 c2 c3) A := C
  have hin : ∀ w ∈ wsX10, w ∈ wsX1_draw := fun _ h => List.mem_cons_of_mem _ (List.mem_append_right _ h)
  refine J.cast (ws' := gO o la sa dy li so sp ++ (gR c2 la L.toNat r ++ (gR c2 sa S.toNat q ++ (gB c1 r L.toNat 2 (fL K Dm) ++ (gB c1 q S.toNat 4 (fS lo hi su db) ++ ([])))))) (lv' := [(0, .ref o), (1, .int (zI a)), (2, .int (zI b))]) (st' := []) ?_ (by rfl) rfl rfl
  refine j_aload_n (pc := 0) C dX1_draw_0 0 rfl ?_
  refine j_aload_n (pc := 1) C dX1_draw_1 0 rfl ?_
  refine j_get (pc := 2) C (ref := "GrainSiloLaw$Sim") (T := TX1) (N := 6) hin _ (At.l (k := 0) rfl) rfl 5 (by decide) (C.w 1 rfl) rfl rfl dX1_draw_2 ?_
  refine j_iconst (pc := 5) C dX1_draw_5 ?_
  refine j_newI (pc := 6) C (C.w 2 rfl) 0 rfl (n := 4) (by omega) (by omega) (by show _ ≤ 2; omega) (by show _ ≤ 21; omega) dX1_draw_6 (fun q1_ => ?_)
  refine J.perm (ws' := gA c1 q1_ 4 (fun _ => 0) ++ (gO o la sa dy li so sp ++ (gR c2 la L.toNat r ++ (gR c2 sa S.toNat q ++ (gB c1 r L.toNat 2 (fL K Dm) ++ (gB c1 q S.toNat 4 (fS lo hi su db) ++ ([]))))))) (List.Perm.trans (List.Perm.of_eq (show _ = (gO o la sa dy li so sp ++ (gR c2 la L.toNat r ++ (gR c2 sa S.toNat q ++ (gB c1 r L.toNat 2 (fL K Dm) ++ (gB c1 q S.toNat 4 (fS lo hi su db) ++ ([])))))) ++ (gA c1 q1_ 4 (fun _ => 0)) from rfl)) (perm_of_count (fun cnt h1_ h0_ => by simp only [wU, wS, wGS, h1_, h0_] <;> omega))) ?_
  refine j_dup (pc := 8) C dX1_draw_8 rfl ?_
  refine j_iconst (pc := 9) C dX1_draw_9 ?_
  refine j_iload_n (pc := 10) C dX1_draw_10 1 rfl ?_
  refine j_iast (pc := 11) C _ 0 (At.l (k := 0) rfl) rfl (by omega) (by omega) (by omega) (ws' := gA c1 q1_ 4 (upZ (fun _ => 0) 0 a) ++ (gO o la sa dy li so sp ++ (gR c2 la L.toNat r ++ (gR c2 sa S.toNat q ++ (gB c1 r L.toNat 2 (fL K Dm) ++ (gB c1 q S.toNat 4 (fS lo hi su db) ++ ([]))))))) (Pu.l (k := 0) (hk := rfl) rfl) dX1_draw_11 ?_
  refine j_dup (pc := 12) C dX1_draw_12 rfl ?_
  refine j_iconst (pc := 13) C dX1_draw_13 ?_
  refine j_iload_n (pc := 14) C dX1_draw_14 2 rfl ?_
  refine j_iast (pc := 15) C _ 0 (At.l (k := 0) rfl) rfl (by omega) (by omega) (by omega) (ws' := gA c1 q1_ 4 (upZ (upZ (fun _ => 0) 0 a) 1 b) ++ (gO o la sa dy li so sp ++ (gR c2 la L.toNat r ++ (gR c2 sa S.toNat q ++ (gB c1 r L.toNat 2 (fL K Dm) ++ (gB c1 q S.toNat 4 (fS lo hi su db) ++ ([]))))))) (Pu.l (k := 0) (hk := rfl) rfl) dX1_draw_15 ?_
  refine j_dup (pc := 16) C dX1_draw_16 rfl ?_
  refine j_iconst (pc := 17) C dX1_draw_17 ?_
  refine j_aload_n (pc := 18) C dX1_draw_18 0 rfl ?_
  refine j_iload_n (pc := 19) C dX1_draw_19 1 rfl ?_
  refine j_iload_n (pc := 20) C dX1_draw_20 2 rfl ?_
  refine J.perm (ws' := wS c1 c2 o la sa r q dy li so sp L K Dm S lo hi su db ++ (gA c1 q1_ 4 (upZ (upZ (fun _ => 0) 0 a) 1 b) ++ ([]))) (perm_of_count (fun cnt h1_ h0_ => by simp only [wU, wS, wGS, h1_, h0_] <;> omega)) ?_
  refine j_callPI (pc := 21) C (As := [.int (zI a), .int (zI b)]) (rest := [.int (zI 2), .ref q1_, .ref q1_, .ref sa, .ref o]) (wr := gA c1 q1_ 4 (upZ (upZ (fun _ => 0) 0 a) 1 b) ++ ([])) (kX1_added l D c1 c2 c3 o la sa r q dy li so sp L K Dm S lo hi su db a b (by omega) (by omega) (by omega) (by omega)) (cwV 2 C.2.2.2.2.1 gX1_draw_X1_added rfl rfl rfl (by decide +kernel) ⟨Nat.le_of_ble_eq_true rfl, Nat.le_of_ble_eq_true rfl⟩) 0 (ci := 1) rfl rfl rfl dX1_draw_21 rfl rfl (Nat.le_of_ble_eq_true rfl) ⟨(by show _ ≤ 2; omega), (by show _ ≤ 21; omega)⟩ ?_
  refine J.sub (ws' := gO o la sa dy li so sp ++ (gR c2 la L.toNat r ++ (gR c2 sa S.toNat q ++ (gB c1 r L.toNat 2 (fL K Dm) ++ (gB c1 q S.toNat 4 (fS lo hi su db) ++ (gA c1 q1_ 4 (upZ (upZ (fun _ => 0) 0 a) 1 b) ++ ([]))))))) (rest := []) (perm_of_count (fun cnt h1_ h0_ => by simp only [wU, wS, wGS, h1_, h0_] <;> omega)) ?_
  refine j_iast (pc := 24) C _ 0 (At.r (At.r (At.r (At.r (At.r (At.l (k := 0) rfl)))))) rfl (by omega) (by omega) (by omega) (ws' := gO o la sa dy li so sp ++ (gR c2 la L.toNat r ++ (gR c2 sa S.toNat q ++ (gB c1 r L.toNat 2 (fL K Dm) ++ (gB c1 q S.toNat 4 (fS lo hi su db) ++ (gA c1 q1_ 4 (upZ (upZ (upZ (fun _ => 0) 0 a) 1 b) 2 (zs Dm a (b + 1))) ++ ([]))))))) (Pu.r (Pu.r (Pu.r (Pu.r (Pu.r (Pu.l (k := 0) (hk := rfl) rfl)))))) dX1_draw_24 ?_
  refine j_dup (pc := 25) C dX1_draw_25 rfl ?_
  refine j_iconst (pc := 26) C dX1_draw_26 ?_
  refine j_iconst (pc := 27) C dX1_draw_27 ?_
  refine j_iast (pc := 28) C _ 0 (At.r (At.r (At.r (At.r (At.r (At.l (k := 0) rfl)))))) rfl (by omega) (by omega) (by omega) (ws' := gO o la sa dy li so sp ++ (gR c2 la L.toNat r ++ (gR c2 sa S.toNat q ++ (gB c1 r L.toNat 2 (fL K Dm) ++ (gB c1 q S.toNat 4 (fS lo hi su db) ++ (gA c1 q1_ 4 (upZ (upZ (upZ (upZ (fun _ => 0) 0 a) 1 b) 2 (zs Dm a (b + 1))) 3 0) ++ ([]))))))) (Pu.r (Pu.r (Pu.r (Pu.r (Pu.r (Pu.l (k := 0) (hk := rfl) rfl)))))) dX1_draw_28 ?_
  refine J.cast (ws' := (gO o la sa dy li so sp ++ (gR c2 la L.toNat r ++ (gR c2 sa S.toNat q ++ (gB c1 r L.toNat 2 (fL K Dm) ++ (gB c1 q S.toNat 4 (fS lo hi su db) ++ (gA c1 q1_ 4 (upZ (upZ (upZ (upZ (fun _ => 0) 0 a) 1 b) 2 (zs Dm a (b + 1))) 3 0) ++ ([]))))))) ++ []) ?_ (List.append_nil _).symm rfl rfl
  refine j_callSER (pc := 29) C E1.be (E1.he ho) (As := [.ref sa, .ref q1_]) (rest := [.ref o]) (w0 := gO o la sa dy li so sp ++ (gR c2 la L.toNat r ++ (gR c2 sa S.toNat q ++ (gB c1 r L.toNat 2 (fL K Dm) ++ (gB c1 q S.toNat 4 (fS lo hi su db) ++ (gA c1 q1_ 4 (upZ (upZ (upZ (upZ (fun _ => 0) 0 a) 1 b) 2 (zs Dm a (b + 1))) 3 0) ++ ([]))))))) (wr := []) (kX1_with l D c1 c2 c3 (gO o la sa dy li so sp ++ (gR c2 la L.toNat r ++ (gR c2 sa S.toNat q ++ (gB c1 r L.toNat 2 (fL K Dm) ++ (gB c1 q S.toNat 4 (fS lo hi su db) ++ (gA c1 q1_ 4 (upZ (upZ (upZ (upZ (fun _ => 0) 0 a) 1 b) 2 (zs Dm a (b + 1))) 3 0) ++ ([]))))))) sa q1_ S.toNat q (by omega) ⟨_, (At.r (At.r (At.l (k := 0) rfl)))⟩ (fun j hj => ⟨_, _, (At.r (At.r (At.r (At.r (At.l (gB_atN hj))))))⟩) ⟨_, _, (At.r (At.r (At.r (At.r (At.r (At.l (k := 0) rfl))))))⟩) (va_cwS 2 C.2.2.2.2.1 gX1_draw_X1_with rfl rfl rfl (by decide +kernel) ⟨Nat.le_of_ble_eq_true rfl, Nat.le_of_ble_eq_true rfl⟩) dX1_draw_29 rfl rfl (Nat.le_of_ble_eq_true rfl) ⟨(by show _ ≤ 2; omega), (by show _ ≤ 21; omega)⟩ (fun u2_ _ => ?_)
  refine J.sub (ws' := gR c2 u2_ (S.toNat + 1) (fun j => if j < S.toNat then q j else q1_) ++ (gO o la sa dy li so sp ++ (gR c2 la L.toNat r ++ (gR c2 sa S.toNat q ++ (gB c1 r L.toNat 2 (fL K Dm) ++ (gB c1 q S.toNat 4 (fS lo hi su db) ++ (gA c1 q1_ 4 (upZ (upZ (upZ (upZ (fun _ => 0) 0 a) 1 b) 2 (zs Dm a (b + 1))) 3 0) ++ ([])))))))) (rest := []) (perm_of_count (fun cnt h1_ h0_ => by simp only [wU, wS, wGS, h1_, h0_] <;> omega)) ?_
  refine j_putR (pc := 32) C (ref := "GrainSiloLaw$Sim") (T := TX1) (N := 6) (ws' := gR c2 u2_ (S.toNat + 1) (fun j => if j < S.toNat then q j else q1_) ++ (gO o la u2_ dy li so sp ++ (gR c2 la L.toNat r ++ (gR c2 sa S.toNat q ++ (gB c1 r L.toNat 2 (fL K Dm) ++ (gB c1 q S.toNat 4 (fS lo hi su db) ++ (gA c1 q1_ 4 (upZ (upZ (upZ (upZ (fun _ => 0) 0 a) 1 b) 2 (zs Dm a (b + 1))) 3 0) ++ ([])))))))) hin tyX1 tyX1_ok nmX1 _ (At.r (At.l (k := 0) rfl)) rfl 5 (by decide) (C.w 1 rfl) rfl rfl (by decide +kernel) (Nat.le_of_ble_eq_true rfl) (Pu.r (Pu.l (k := 0) (hk := rfl) rfl)) dX1_draw_32 ?_
  refine J.sub (ws' := gR c2 u2_ (S.toNat + 1) (fun j => if j < S.toNat then q j else q1_) ++ (gO o la u2_ dy li so sp ++ (gR c2 la L.toNat r ++ (gB c1 r L.toNat 2 (fL K Dm) ++ (gB c1 q S.toNat 4 (fS lo hi su db) ++ (gA c1 q1_ 4 (upZ (upZ (upZ (upZ (fun _ => 0) 0 a) 1 b) 2 (zs Dm a (b + 1))) 3 0) ++ ([]))))))) (rest := gR c2 sa S.toNat q) (perm_of_count (fun cnt h1_ h0_ => by simp only [wU, wS, wGS, h1_, h0_] <;> omega)) ?_
  refine J.perm (ws' := (gB c1 q S.toNat 4 (fS lo hi su db) ++ gA c1 q1_ 4 (upZ (upZ (upZ (upZ (fun _ => 0) 0 a) 1 b) 2 (zs Dm a (b + 1))) 3 0)) ++ (gR c2 u2_ (S.toNat + 1) (fun j => if j < S.toNat then q j else q1_) ++ (gO o la u2_ dy li so sp ++ (gR c2 la L.toNat r ++ (gB c1 r L.toNat 2 (fL K Dm) ++ ([])))))) (perm_of_count (fun cnt h1_ h0_ => by simp only [wU, wS, wGS, h1_, h0_] <;> omega)) ?_
  refine J.pushS (by omega) ?_
  refine J.cast (ws' := gB c1 (fun j => if j < S.toNat then q j else q1_) ((S + 1).toNat) 4 (fS (upZ lo S a) (upZ hi S b) (upZ su S (zs Dm a (b + 1))) (upZ db S 0)) ++ (gR c2 u2_ ((S + 1).toNat) (fun j => if j < S.toNat then q j else q1_) ++ (gO o la u2_ dy li so sp ++ (gR c2 la L.toNat r ++ (gB c1 r L.toNat 2 (fL K Dm) ++ ([])))))) ?_ (by rw [show (S + 1).toNat = S.toNat + 1 by omega]) rfl rfl
  refine J.sub (ws' := gO o la u2_ dy li so sp ++ (gR c2 la L.toNat r ++ (gR c2 u2_ ((S + 1).toNat) (fun j => if j < S.toNat then q j else q1_) ++ (gB c1 r L.toNat 2 (fL K Dm) ++ (gB c1 (fun j => if j < S.toNat then q j else q1_) ((S + 1).toNat) 4 (fS (upZ lo S a) (upZ hi S b) (upZ su S (zs Dm a (b + 1))) (upZ db S 0)) ++ ([])))))) (rest := []) (perm_of_count (fun cnt h1_ h0_ => by simp only [wU, wS, wGS, h1_, h0_] <;> omega)) ?_
  refine j_aload_n (pc := 35) C dX1_draw_35 0 rfl ?_
  refine j_get (pc := 36) C (ref := "GrainSiloLaw$Sim") (T := TX1) (N := 6) hin _ (At.l (k := 0) rfl) rfl 5 (by decide) (C.w 1 rfl) rfl rfl dX1_draw_36 ?_
  refine j_aload_n (pc := 39) C dX1_draw_39 0 rfl ?_
  refine j_get (pc := 40) C (ref := "GrainSiloLaw$Sim") (T := TX1) (N := 6) hin _ (At.l (k := 0) rfl) rfl 5 (by decide) (C.w 1 rfl) rfl rfl dX1_draw_40 ?_
  refine j_alen (pc := 43) C _ 1 (At.r (At.r (At.l (k := 0) rfl))) rfl (z := S + 1) (alen_eq (by omega) (by omega)) dX1_draw_43 ?_
  refine j_iconst (pc := 44) C dX1_draw_44 ?_
  refine j_isub (pc := 45) C dX1_draw_45 ?_
  refine j_aald (pc := 46) C _ 1 (g := fun j => if j < S.toNat then q j else q1_) (At.r (At.r (At.l (k := 0) rfl))) rfl (by omega) (by omega) (by omega) dX1_draw_46 ?_
  refine j_iconst (pc := 47) C dX1_draw_47 ?_
  refine j_iald (pc := 48) C _ 0 (At.r (At.r (At.r (At.r (At.l (gB_at (by omega) (by omega))))))) rfl (by omega) (by omega) (by omega) dX1_draw_48 ?_
  refine J.cast (ws' := gO o la u2_ dy li so sp ++ (gR c2 la L.toNat r ++ (gR c2 u2_ ((S + 1).toNat) (fun j => if j < S.toNat then q j else q1_) ++ (gB c1 r L.toNat 2 (fL K Dm) ++ (gB c1 (fun j => if j < S.toNat then q j else q1_) ((S + 1).toNat) 4 (fS (upZ lo S a) (upZ hi S b) (upZ su S (zs Dm a (b + 1))) (upZ db S 0)) ++ ([])))))) (lv' := [(0, .ref o), (1, .int (zI a)), (2, .int (zI b))]) (st' := [.int (zI ((upZ su S (zs Dm a (b + 1))) ((S + 1) - 1)))]) ?_ rfl rfl rfl
  exact j_iretE (pc := 49) C hr dX1_draw_49 ⟨u2_, q1_⟩ trivial (by rw [show S + 1 - 1 = S by omega, upZ_s]) (by rfl) (by omega) (by omega)
