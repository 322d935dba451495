/-! ===== Sim: sums, letting out ===== -/
set_option maxHeartbeats 4000000 in
set_option maxRecDepth 100000 in
theorem kX1_least (l : Launch) (D : va_G) (c1 c2 c3 : ClassId) (o la sa : Nat) (r q : Nat → Nat) (dy li so sp L : Int) (K Dm : Int → Int) (S : Int) (lo hi su db : Int → Int) (M : Int → Int → Int) (a b : Int) (hok : okS Dm L lo hi su db S) (h0 : 0 ≤ a) (h1 : a ≤ b) (h2 : b < L) : eI l yX1_least wsX1_least ({ frames := 1, cells := 1, slots := 13, locals := 30 }) D (tyS c1 c2 c3) [.ref o, .int (zI a), .int (zI b)] (wS c1 c2 o la sa r q dy li so sp L K Dm S lo hi su db) E1 (fun (u9 : Unit) => True) (fun (u9 : Unit) => wS c1 c2 o la sa r q dy li so sp L K Dm S lo hi su db) (fun (u9 : Unit) => zI (-((wg L lo hi su db M S) (b + 1) a))) 1 13 := by
  refine eI.of (cc := cX1_least) (maxL := 3) (ret := .int) (by decide) rfl (lv := [(0, .ref o), (1, .int (zI a)), (2, .int (zI b))]) [0, 1, 2] rfl (Nat.le_of_ble_eq_true rfl) ?_
  intro p e s m args below meth c A C hr hE hAw
  have ho : va_AOA .int s := hE
  have C : GC p s m args meth c cX1_least 3 RX1 wsX1_least D (tyS c1 c2 c3) A := C
  have hin : ∀ w ∈ wsX10, w ∈ wsX1_least := fun _ h => List.mem_cons_of_mem _ (List.mem_append_right _ h)
  obtain ⟨⟨hL0, hL⟩, ⟨hS0, hS⟩, hf, hs⟩ := id hok
  refine J.cast (ws' := gO o la sa dy li so sp ++ (gR c2 la L.toNat r ++ (gR c2 sa S.toNat q ++ (gB c1 r L.toNat 2 (fL K Dm) ++ (gB c1 q S.toNat 4 (fS lo hi su db) ++ ([])))))) (lv' := [(0, .ref o), (1, .int (zI a)), (2, .int (zI b))]) (st' := []) ?_ (by rfl) rfl rfl
  refine j_aload_n (pc := 0) C dX1_least_0 0 rfl ?_
  refine j_iload_n (pc := 1) C dX1_least_1 2 rfl ?_
  refine j_iconst (pc := 2) C dX1_least_2 ?_
  refine j_iadd (pc := 3) C dX1_least_3 ?_
  refine J.perm (ws' := wS c1 c2 o la sa r q dy li so sp L K Dm S lo hi su db ++ ([])) (perm_of_count (fun cnt h1_ h0_ => by simp only [wU, wS, wGS, h1_, h0_] <;> omega)) ?_
  refine j_callER (pc := 4) C E1.be (E1.he ho) (As := [.int (zI (b + 1))]) (rest := []) (wr := []) (kX1_most l D c1 c2 c3 o la sa r q dy li so sp L K Dm S lo hi su db M (b + 1) hok (by omega) (by omega)) (cwV 1 C.2.2.2.2.1 gX1_least_X1_most rfl rfl rfl (by decide +kernel) ⟨Nat.le_of_ble_eq_true rfl, Nat.le_of_ble_eq_true rfl⟩) 0 (ci := 1) rfl rfl rfl dX1_least_4 rfl rfl (Nat.le_of_ble_eq_true rfl) ⟨(by show _ ≤ 1; omega), (by show _ ≤ 13; omega)⟩ (fun u1_ hu1_ => ?_)
  obtain ⟨u1_a, u1_f⟩ := u1_
  try dsimp only at hu1_ ⊢
  refine J.sub (ws' := gO o la sa dy li so sp ++ (gR c2 la L.toNat r ++ (gR c2 sa S.toNat q ++ (gB c1 r L.toNat 2 (fL K Dm) ++ (gB c1 q S.toNat 4 (fS lo hi su db) ++ (gA c1 u1_a ((L + 1).toNat) u1_f ++ ([]))))))) (rest := []) (perm_of_count (fun cnt h1_ h0_ => by simp only [wU, wS, wGS, h1_, h0_] <;> omega)) ?_
  refine j_iload_n (pc := 7) C dX1_least_7 1 rfl ?_
  refine j_iald (pc := 8) C _ 0 (At.r (At.r (At.r (At.r (At.r (At.l (k := 0) rfl)))))) rfl (by omega) (by omega) (by omega) dX1_least_8 ?_
  refine j_ineg (pc := 9) C dX1_least_9 ?_
  refine J.sub (ws' := wS c1 c2 o la sa r q dy li so sp L K Dm S lo hi su db) (rest := gA c1 u1_a ((L + 1).toNat) u1_f) (perm_of_count (fun cnt h1_ h0_ => by simp only [wU, wS, wGS, h1_, h0_] <;> omega)) ?_
  exact j_iretE (pc := 10) C hr dX1_least_10 () trivial (by rw [hu1_ a (by omega) (by omega)]) (by rfl) (by omega) (by omega)
set_option maxHeartbeats 4000000 in
set_option maxRecDepth 100000 in
theorem kX1_greatest (l : Launch) (D : va_G) (c1 c2 c3 : ClassId) (o la sa : Nat) (r q : Nat → Nat) (dy li so sp L : Int) (K Dm : Int → Int) (S : Int) (lo hi su db : Int → Int) (M : Int → Int → Int) (a b : Int) (hok : okS Dm L lo hi su db S) (h0 : 0 ≤ a) (h1 : a ≤ b) (h2 : b < L) : eI l yX1_greatest wsX1_greatest ({ frames := 1, cells := 1, slots := 13, locals := 30 }) D (tyS c1 c2 c3) [.ref o, .int (zI a), .int (zI b)] (wS c1 c2 o la sa r q dy li so sp L K Dm S lo hi su db) E1 (fun (u9 : Unit) => True) (fun (u9 : Unit) => wS c1 c2 o la sa r q dy li so sp L K Dm S lo hi su db) (fun (u9 : Unit) => zI (((wg L lo hi su db M S) a (b + 1)))) 1 13 := by
  refine eI.of (cc := cX1_greatest) (maxL := 3) (ret := .int) (by decide) rfl (lv := [(0, .ref o), (1, .int (zI a)), (2, .int (zI b))]) [0, 1, 2] rfl (Nat.le_of_ble_eq_true rfl) ?_
  intro p e s m args below meth c A C hr hE hAw
  have ho : va_AOA .int s := hE
  have C : GC p s m args meth c cX1_greatest 3 RX1 wsX1_greatest D (tyS c1 c2 c3) A := C
  have hin : ∀ w ∈ wsX10, w ∈ wsX1_greatest := fun _ h => List.mem_cons_of_mem _ (List.mem_append_right _ h)
  obtain ⟨⟨hL0, hL⟩, ⟨hS0, hS⟩, hf, hs⟩ := id hok
  refine J.cast (ws' := gO o la sa dy li so sp ++ (gR c2 la L.toNat r ++ (gR c2 sa S.toNat q ++ (gB c1 r L.toNat 2 (fL K Dm) ++ (gB c1 q S.toNat 4 (fS lo hi su db) ++ ([])))))) (lv' := [(0, .ref o), (1, .int (zI a)), (2, .int (zI b))]) (st' := []) ?_ (by rfl) rfl rfl
  refine j_aload_n (pc := 0) C dX1_greatest_0 0 rfl ?_
  refine j_iload_n (pc := 1) C dX1_greatest_1 1 rfl ?_
  refine J.perm (ws' := wS c1 c2 o la sa r q dy li so sp L K Dm S lo hi su db ++ ([])) (perm_of_count (fun cnt h1_ h0_ => by simp only [wU, wS, wGS, h1_, h0_] <;> omega)) ?_
  refine j_callER (pc := 2) C E1.be (E1.he ho) (As := [.int (zI a)]) (rest := []) (wr := []) (kX1_most l D c1 c2 c3 o la sa r q dy li so sp L K Dm S lo hi su db M a hok (by omega) (by omega)) (cwV 1 C.2.2.2.2.1 gX1_greatest_X1_most rfl rfl rfl (by decide +kernel) ⟨Nat.le_of_ble_eq_true rfl, Nat.le_of_ble_eq_true rfl⟩) 0 (ci := 1) rfl rfl rfl dX1_greatest_2 rfl rfl (Nat.le_of_ble_eq_true rfl) ⟨(by show _ ≤ 1; omega), (by show _ ≤ 13; omega)⟩ (fun u1_ hu1_ => ?_)
  obtain ⟨u1_a, u1_f⟩ := u1_
  try dsimp only at hu1_ ⊢
  refine J.sub (ws' := gO o la sa dy li so sp ++ (gR c2 la L.toNat r ++ (gR c2 sa S.toNat q ++ (gB c1 r L.toNat 2 (fL K Dm) ++ (gB c1 q S.toNat 4 (fS lo hi su db) ++ (gA c1 u1_a ((L + 1).toNat) u1_f ++ ([]))))))) (rest := []) (perm_of_count (fun cnt h1_ h0_ => by simp only [wU, wS, wGS, h1_, h0_] <;> omega)) ?_
  refine j_iload_n (pc := 5) C dX1_greatest_5 2 rfl ?_
  refine j_iconst (pc := 6) C dX1_greatest_6 ?_
  refine j_iadd (pc := 7) C dX1_greatest_7 ?_
  refine j_iald (pc := 8) C _ 0 (At.r (At.r (At.r (At.r (At.r (At.l (k := 0) rfl)))))) rfl (by omega) (by omega) (by omega) dX1_greatest_8 ?_
  refine J.sub (ws' := wS c1 c2 o la sa r q dy li so sp L K Dm S lo hi su db) (rest := gA c1 u1_a ((L + 1).toNat) u1_f) (perm_of_count (fun cnt h1_ h0_ => by simp only [wU, wS, wGS, h1_, h0_] <;> omega)) ?_
  exact j_iretE (pc := 9) C hr dX1_greatest_9 () trivial (by rw [hu1_ (b + 1) (by omega) (by omega)]) (by rfl) (by omega) (by omega)
set_option maxHeartbeats 4000000 in
set_option maxRecDepth 100000 in
theorem kX1_doubt (l : Launch) (D : va_G) (c1 c2 c3 : ClassId) (o la sa : Nat) (r q : Nat → Nat) (dy li so sp L : Int) (K Dm : Int → Int) (S : Int) (lo hi su db : Int → Int) (M : Int → Int → Int) (hok : okS Dm L lo hi su db S) : eI l yX1_doubt wsX1_doubt ({ frames := 2, cells := 24, slots := 312, locals := 52 }) D (tyS c1 c2 c3) [.ref o] (wS c1 c2 o la sa r q dy li so sp L K Dm S lo hi su db) E1 (fun (u9 : Unit) => True) (fun (u9 : Unit) => wS c1 c2 o la sa r q dy li so sp L K Dm S lo hi su db) (fun (u9 : Unit) => zI (dNow (wg L lo hi su db M S) L)) 24 312 := by
  refine eI.of (cc := cX1_doubt) (maxL := 3) (ret := .int) (by decide) rfl (lv := [(0, .ref o)]) [0] rfl (Nat.le_of_ble_eq_true rfl) ?_
  intro p e s m args below meth c A C hr hE hAw
  have ho : va_AOA .int s := hE
  have C : GC p s m args meth c cX1_doubt 3 RX1 wsX1_doubt D (tyS c1 c2 c3) A := C
  have hin : ∀ w ∈ wsX10, w ∈ wsX1_doubt := fun _ h => List.mem_cons_of_mem _ (List.mem_append_right _ h)
  obtain ⟨⟨hL0, hL⟩, ⟨hS0, hS⟩, hf, hs⟩ := id hok
  refine J.cast (ws' := gO o la sa dy li so sp ++ (gR c2 la L.toNat r ++ (gR c2 sa S.toNat q ++ (gB c1 r L.toNat 2 (fL K Dm) ++ (gB c1 q S.toNat 4 (fS lo hi su db) ++ ([])))))) (lv' := [(0, .ref o)]) (st' := []) ?_ (by rfl) rfl rfl
  refine j_iconst (pc := 0) C dX1_doubt_0 ?_
  refine j_istore_n (pc := 1) C (lv' := [(0, .ref o), (1, .int (zI 0))]) dX1_doubt_1 (by decide) [1, 0] rfl ?_
  refine j_iconst (pc := 2) C dX1_doubt_2 ?_
  refine j_istore_n (pc := 3) C (lv' := [(0, .ref o), (1, .int (zI 0)), (2, .int (zI 0))]) dX1_doubt_3 (by decide) [1, 2, 0] rfl ?_
  refine J.cast (ws' := gO o la sa dy li so sp ++ (gR c2 la L.toNat r ++ (gR c2 sa S.toNat q ++ (gB c1 r L.toNat 2 (fL K Dm) ++ (gB c1 q S.toNat 4 (fS lo hi su db) ++ ([])))))) (lv' := [(0, .ref o), (1, .int (zI (zs (fun j => (wg L lo hi su db M S) j (j + 1) - -((wg L lo hi su db M S) (j + 1) j)) 0 ((0 : Int))))), (2, .int (zI (((0 : Int)))))]) ?_ (by rfl) (by rw [zs_0]) rfl
  refine J.widen (k := 2 * ((0 : Int)).toNat) (n := 26 * ((0 : Int)).toNat) (by omega) (by omega) ?_
  refine j_loop (X := Unit) (fun (i : Int) x9 => gO o la sa dy li so sp ++ (gR c2 la L.toNat r ++ (gR c2 sa S.toNat q ++ (gB c1 r L.toNat 2 (fL K Dm) ++ (gB c1 q S.toNat 4 (fS lo hi su db) ++ ([])))))) (fun (i : Int) x9 => [(0, .ref o), (1, .int (zI (zs (fun j => (wg L lo hi su db M S) j (j + 1) - -((wg L lo hi su db M S) (j + 1) j)) 0 i))), (2, .int (zI i))]) (fun (i : Int) x9 => True) (fun (i : Int) => 2 * i.toNat) (fun (i : Int) => 26 * i.toNat) (0 : Int) L (by omega) ?_ ?_ () trivial
  · intro i x9 h0_4 h1_4 hI_4 hk_4
    try dsimp only at hI_4 hk_4 ⊢
    refine j_iload_n (pc := 4) C dX1_doubt_4 2 rfl ?_
    refine j_aload_n (pc := 5) C dX1_doubt_5 0 rfl ?_
    refine j_get (pc := 6) C (ref := "GrainSiloLaw$Sim") (T := TX1) (N := 6) hin _ (At.l (k := 0) rfl) rfl 4 (by decide) (C.w 1 rfl) rfl rfl dX1_doubt_6 ?_
    refine j_alen (pc := 9) C _ 1 (At.r (At.l (k := 0) rfl)) rfl (z := L) (alen_eq (by omega) (by omega)) dX1_doubt_9 ?_
    refine j_icmp_ge (pc := 10) C 35 dX1_doubt_10 (by decide) ⟨by omega, by omega⟩ ⟨by omega, by omega⟩ (fun c_10 => absurd c_10 (by omega)) (fun c_10 => ?_)
    refine j_iload_n (pc := 13) C dX1_doubt_13 1 rfl ?_
    refine j_aload_n (pc := 14) C dX1_doubt_14 0 rfl ?_
    refine j_iload_n (pc := 15) C dX1_doubt_15 2 rfl ?_
    refine j_iload_n (pc := 16) C dX1_doubt_16 2 rfl ?_
    refine J.perm (ws' := wS c1 c2 o la sa r q dy li so sp L K Dm S lo hi su db ++ ([])) (perm_of_count (fun cnt h1_ h0_ => by simp only [wU, wS, wGS, h1_, h0_] <;> omega)) ?_
    refine j_callEI (pc := 17) C E1.be (E1.he ho) (As := [.int (zI i), .int (zI i)]) (rest := [.int (zI (zs (fun j => (wg L lo hi su db M S) j (j + 1) - -((wg L lo hi su db M S) (j + 1) j)) 0 i))]) (wr := []) (kX1_greatest l D c1 c2 c3 o la sa r q dy li so sp L K Dm S lo hi su db M i i hok (by omega) (by omega) (by omega)) (cwV 2 C.2.2.2.2.1 gX1_doubt_X1_greatest rfl rfl rfl (by decide +kernel) ⟨Nat.le_of_ble_eq_true rfl, Nat.le_of_ble_eq_true rfl⟩) 0 (ci := 1) rfl rfl rfl dX1_doubt_17 rfl rfl (Nat.le_of_ble_eq_true rfl) ⟨(by show _ ≤ 24; omega), (by show _ ≤ 312; omega)⟩ (fun u1_ hu1_ => ?_)
    refine J.sub (ws' := gO o la sa dy li so sp ++ (gR c2 la L.toNat r ++ (gR c2 sa S.toNat q ++ (gB c1 r L.toNat 2 (fL K Dm) ++ (gB c1 q S.toNat 4 (fS lo hi su db) ++ ([])))))) (rest := []) (perm_of_count (fun cnt h1_ h0_ => by simp only [wU, wS, wGS, h1_, h0_] <;> omega)) ?_
    refine j_aload_n (pc := 20) C dX1_doubt_20 0 rfl ?_
    refine j_iload_n (pc := 21) C dX1_doubt_21 2 rfl ?_
    refine j_iload_n (pc := 22) C dX1_doubt_22 2 rfl ?_
    refine J.perm (ws' := wS c1 c2 o la sa r q dy li so sp L K Dm S lo hi su db ++ ([])) (perm_of_count (fun cnt h1_ h0_ => by simp only [wU, wS, wGS, h1_, h0_] <;> omega)) ?_
    refine j_callEI (pc := 23) C E1.be (E1.he ho) (As := [.int (zI i), .int (zI i)]) (rest := [.int (zI ((wg L lo hi su db M S) i (i + 1))), .int (zI (zs (fun j => (wg L lo hi su db M S) j (j + 1) - -((wg L lo hi su db M S) (j + 1) j)) 0 i))]) (wr := []) (kX1_least l D c1 c2 c3 o la sa r q dy li so sp L K Dm S lo hi su db M i i hok (by omega) (by omega) (by omega)) (cwV 2 C.2.2.2.2.1 gX1_doubt_X1_least rfl rfl rfl (by decide +kernel) ⟨Nat.le_of_ble_eq_true rfl, Nat.le_of_ble_eq_true rfl⟩) 0 (ci := 1) rfl rfl rfl dX1_doubt_23 rfl rfl (Nat.le_of_ble_eq_true rfl) ⟨(by show _ ≤ 24; omega), (by show _ ≤ 312; omega)⟩ (fun u2_ hu2_ => ?_)
    refine J.sub (ws' := gO o la sa dy li so sp ++ (gR c2 la L.toNat r ++ (gR c2 sa S.toNat q ++ (gB c1 r L.toNat 2 (fL K Dm) ++ (gB c1 q S.toNat 4 (fS lo hi su db) ++ ([])))))) (rest := []) (perm_of_count (fun cnt h1_ h0_ => by simp only [wU, wS, wGS, h1_, h0_] <;> omega)) ?_
    refine j_isub (pc := 26) C dX1_doubt_26 ?_
    refine j_iadd (pc := 27) C dX1_doubt_27 ?_
    refine j_istore_n (pc := 28) C (lv' := [(0, .ref o), (1, .int (zI ((zs (fun j => (wg L lo hi su db M S) j (j + 1) - -((wg L lo hi su db M S) (j + 1) j)) 0 i) + (((wg L lo hi su db M S) i (i + 1)) - (-((wg L lo hi su db M S) (i + 1) i)))))), (2, .int (zI i))]) dX1_doubt_28 (by decide) [1, 0, 2] rfl ?_
    refine j_iinc (pc := 29) C (x := i) (lv' := [(0, .ref o), (1, .int (zI ((zs (fun j => (wg L lo hi su db M S) j (j + 1) - -((wg L lo hi su db M S) (j + 1) j)) 0 i) + (((wg L lo hi su db M S) i (i + 1)) - (-((wg L lo hi su db M S) (i + 1) i)))))), (2, .int (zI (i + 1)))]) dX1_doubt_29 2 rfl (by decide) [1, 2, 0] rfl ?_
    refine j_goto (pc := 32) C 4 dX1_doubt_32 (by decide) ?_
    exact J.widen (by omega) (by omega) (J.cast (hk_4 () trivial) (by rfl) (by rw [zs_up _ 0 i h0_4]) rfl)
  · intro x9 hI_4
    try dsimp only at hI_4 ⊢
    refine j_iload_n (pc := 4) C dX1_doubt_4 2 rfl ?_
    refine j_aload_n (pc := 5) C dX1_doubt_5 0 rfl ?_
    refine j_get (pc := 6) C (ref := "GrainSiloLaw$Sim") (T := TX1) (N := 6) hin _ (At.l (k := 0) rfl) rfl 4 (by decide) (C.w 1 rfl) rfl rfl dX1_doubt_6 ?_
    refine j_alen (pc := 9) C _ 1 (At.r (At.l (k := 0) rfl)) rfl (z := L) (alen_eq (by omega) (by omega)) dX1_doubt_9 ?_
    refine j_icmp_ge (pc := 10) C 35 dX1_doubt_10 (by decide) ⟨by omega, by omega⟩ ⟨by omega, by omega⟩ (fun c_10 => ?_) (fun c_10 => absurd c_10 (by omega))
    refine j_iload_n (pc := 35) C dX1_doubt_35 1 rfl ?_
    refine J.sub (ws' := wS c1 c2 o la sa r q dy li so sp L K Dm S lo hi su db) (rest := []) (perm_of_count (fun cnt h1_ h0_ => by simp only [wU, wS, wGS, h1_, h0_] <;> omega)) ?_
    exact j_iretE (pc := 36) C hr dX1_doubt_36 () trivial (by rfl) (by rfl) (by omega) (by omega)
set_option maxHeartbeats 4000000 in
set_option maxRecDepth 100000 in
theorem kX1_letOut (l : Launch) (D : va_G) (c1 c2 c3 : ClassId) (o la sa : Nat) (r q : Nat → Nat) (dy li so sp L : Int) (K Dm : Int → Int) (S : Int) (lo hi su db : Int → Int) (hok : okS Dm L lo hi su db S) (hl1 : 1 ≤ L) (l0 : 0 ≤ li) (l1 : li ≤ 40) : eI l yX1_letOut wsX1_letOut ({ frames := 2, cells := 50, slots := 608, locals := 46 }) D (tyS c1 c2 c3) [.ref o] (wS c1 c2 o la sa r q dy li so sp L K Dm S lo hi su db) E1 (fun (u9 : Nat × Nat × (Nat → Nat)) => True) (fun (u9 : Nat × Nat × (Nat → Nat)) => wS c1 c2 o u9.1 u9.2.1 (sk r 0) u9.2.2 dy li (if li < Dm 0 then so else so + 1) (if li < Dm 0 then sp + 1 else sp) (L - 1) (skF K 0) (skF Dm 0) (zc (pH hi) 0 S) (cmp (pH hi) (cutL lo) S) (cmp (pH hi) (low1 hi) S) (cmp (pH hi) (cutS lo su (Dm 0)) S) (cmp (pH hi) db S)) (fun (u9 : Nat × Nat × (Nat → Nat)) => zI (Dm 0)) 50 608 := by
  refine eI.of (cc := cX1_letOut) (maxL := 8) (ret := .int) (by decide) rfl (lv := [(0, .ref o)]) [0] rfl (Nat.le_of_ble_eq_true rfl) ?_
  intro p e s m args below meth c A C hr hE hAw
  have ho : va_AOA .int s := hE
  have C : GC p s m args meth c cX1_letOut 8 RX1 wsX1_letOut D (tyS c1 c2 c3) A := C
  have hin : ∀ w ∈ wsX10, w ∈ wsX1_letOut := fun _ h => List.mem_cons_of_mem _ (List.mem_append_right _ h)
  obtain ⟨⟨hL0, hL⟩, ⟨hS0, hS⟩, hf, hs⟩ := id hok
  have hD0 := hf 0 (by omega) (by omega)
  refine J.cast (ws' := gO o la sa dy li so sp ++ (gR c2 la L.toNat r ++ (gR c2 sa S.toNat q ++ (gB c1 r L.toNat 2 (fL K Dm) ++ (gB c1 q S.toNat 4 (fS lo hi su db) ++ ([])))))) (lv' := [(0, .ref o)]) (st' := []) ?_ (by rfl) rfl rfl
  refine j_aload_n (pc := 0) C dX1_letOut_0 0 rfl ?_
  refine j_get (pc := 1) C (ref := "GrainSiloLaw$Sim") (T := TX1) (N := 6) hin _ (At.l (k := 0) rfl) rfl 4 (by decide) (C.w 1 rfl) rfl rfl dX1_letOut_1 ?_
  refine j_iconst (pc := 4) C dX1_letOut_4 ?_
  refine j_aald (pc := 5) C _ 1 (g := r) (At.r (At.l (k := 0) rfl)) rfl (by omega) (by omega) (by omega) dX1_letOut_5 ?_
  refine j_iconst (pc := 6) C dX1_letOut_6 ?_
  refine j_iald (pc := 7) C _ 0 (At.r (At.r (At.r (At.l (gB_at (by omega) (by omega)))))) rfl (by omega) (by omega) (by omega) dX1_letOut_7 ?_
  refine J.cast (ws' := gO o la sa dy li so sp ++ (gR c2 la L.toNat r ++ (gR c2 sa S.toNat q ++ (gB c1 r L.toNat 2 (fL K Dm) ++ (gB c1 q S.toNat 4 (fS lo hi su db) ++ ([])))))) (lv' := [(0, .ref o)]) (st' := [.int (zI (Dm (0 : Int)))]) ?_ rfl rfl rfl
  refine j_istore_n (pc := 8) C (lv' := [(0, .ref o), (1, .int (zI (Dm (0 : Int))))]) dX1_letOut_8 (by decide) [1, 0] rfl ?_
  refine J.join (X := Unit) (fun x9 => gO o la sa dy li (if li < Dm 0 then so else so + 1) (if li < Dm 0 then sp + 1 else sp) ++ (gR c2 la L.toNat r ++ (gR c2 sa S.toNat q ++ (gB c1 r L.toNat 2 (fL K Dm) ++ (gB c1 q S.toNat 4 (fS lo hi su db) ++ ([])))))) (fun x9 => [(0, .ref o), (1, .int (zI (Dm (0 : Int))))]) (fun x9 => []) (fun x9 => True) 40 (0) (0) ?_ ?_
  · intro x9 hJ_40
    try dsimp only at hJ_40 ⊢
    refine j_aload_n (pc := 40) C dX1_letOut_40 0 rfl ?_
    refine j_aload_n (pc := 41) C dX1_letOut_41 0 rfl ?_
    refine j_get (pc := 42) C (ref := "GrainSiloLaw$Sim") (T := TX1) (N := 6) hin _ (At.l (k := 0) rfl) rfl 4 (by decide) (C.w 1 rfl) rfl rfl dX1_letOut_42 ?_
    refine j_iconst (pc := 45) C dX1_letOut_45 ?_
    refine J.cast (ws' := (gO o la sa dy li (if li < Dm 0 then so else so + 1) (if li < Dm 0 then sp + 1 else sp) ++ (gR c2 la L.toNat r ++ (gR c2 sa S.toNat q ++ (gB c1 r L.toNat 2 (fL K Dm) ++ (gB c1 q S.toNat 4 (fS lo hi su db) ++ ([])))))) ++ []) ?_ (List.append_nil _).symm rfl rfl
    refine j_callSER (pc := 46) C E1.be (E1.he ho) (As := [.ref la, .int (zI 0)]) (rest := [.ref o]) (w0 := gO o la sa dy li (if li < Dm 0 then so else so + 1) (if li < Dm 0 then sp + 1 else sp) ++ (gR c2 la L.toNat r ++ (gR c2 sa S.toNat q ++ (gB c1 r L.toNat 2 (fL K Dm) ++ (gB c1 q S.toNat 4 (fS lo hi su db) ++ ([])))))) (wr := []) (kX1_without l D c1 c2 c3 (gO o la sa dy li (if li < Dm 0 then so else so + 1) (if li < Dm 0 then sp + 1 else sp) ++ (gR c2 la L.toNat r ++ (gR c2 sa S.toNat q ++ (gB c1 r L.toNat 2 (fL K Dm) ++ (gB c1 q S.toNat 4 (fS lo hi su db) ++ ([])))))) la L.toNat r 0 (by omega) (by omega) (by omega) ⟨_, (At.r (At.l (k := 0) rfl))⟩ (fun j hj => ⟨_, _, (At.r (At.r (At.r (At.l (gB_atN hj)))))⟩)) (va_cwS 2 C.2.2.2.2.1 gX1_letOut_X1_without rfl rfl rfl (by decide +kernel) ⟨Nat.le_of_ble_eq_true rfl, Nat.le_of_ble_eq_true rfl⟩) dX1_letOut_46 rfl rfl (Nat.le_of_ble_eq_true rfl) ⟨(by show _ ≤ 50; omega), (by show _ ≤ 608; omega)⟩ (fun u1_ _ => ?_)
    refine J.sub (ws' := gR c2 u1_ (L.toNat - 1) (sk r (0 : Int).toNat) ++ (gO o la sa dy li (if li < Dm 0 then so else so + 1) (if li < Dm 0 then sp + 1 else sp) ++ (gR c2 la L.toNat r ++ (gR c2 sa S.toNat q ++ (gB c1 r L.toNat 2 (fL K Dm) ++ (gB c1 q S.toNat 4 (fS lo hi su db) ++ ([]))))))) (rest := []) (perm_of_count (fun cnt h1_ h0_ => by simp only [wU, wS, wGS, h1_, h0_] <;> omega)) ?_
    refine j_putR (pc := 49) C (ref := "GrainSiloLaw$Sim") (T := TX1) (N := 6) (ws' := gR c2 u1_ (L.toNat - 1) (sk r (0 : Int).toNat) ++ (gO o u1_ sa dy li (if li < Dm 0 then so else so + 1) (if li < Dm 0 then sp + 1 else sp) ++ (gR c2 la L.toNat r ++ (gR c2 sa S.toNat q ++ (gB c1 r L.toNat 2 (fL K Dm) ++ (gB c1 q S.toNat 4 (fS lo hi su db) ++ ([]))))))) hin tyX1 tyX1_ok nmX1 _ (At.r (At.l (k := 0) rfl)) rfl 4 (by decide) (C.w 1 rfl) rfl rfl (by decide +kernel) (Nat.le_of_ble_eq_true rfl) (Pu.r (Pu.l (k := 0) (hk := rfl) rfl)) dX1_letOut_49 ?_
    refine J.sub (ws' := gR c2 u1_ (L.toNat - 1) (sk r (0 : Int).toNat) ++ (gO o u1_ sa dy li (if li < Dm 0 then so else so + 1) (if li < Dm 0 then sp + 1 else sp) ++ (gR c2 sa S.toNat q ++ (gB c1 r L.toNat 2 (fL K Dm) ++ (gB c1 q S.toNat 4 (fS lo hi su db) ++ ([])))))) (rest := gR c2 la L.toNat r) (perm_of_count (fun cnt h1_ h0_ => by simp only [wU, wS, wGS, h1_, h0_] <;> omega)) ?_
    refine J.perm (ws' := gB c1 r L.toNat 2 (fL K Dm) ++ (gR c2 u1_ (L.toNat - 1) (sk r (0 : Int).toNat) ++ (gO o u1_ sa dy li (if li < Dm 0 then so else so + 1) (if li < Dm 0 then sp + 1 else sp) ++ (gR c2 sa S.toNat q ++ (gB c1 q S.toNat 4 (fS lo hi su db) ++ ([])))))) (perm_of_count (fun cnt h1_ h0_ => by simp only [wU, wS, wGS, h1_, h0_] <;> omega)) ?_
    refine J.skipL 0 (by omega) ?_
    refine J.cast (ws' := gB c1 (sk r 0) ((L - 1).toNat) 2 (fL (skF K 0) (skF Dm 0)) ++ (gR c2 u1_ ((L - 1).toNat) (sk r 0) ++ (gO o u1_ sa dy li (if li < Dm 0 then so else so + 1) (if li < Dm 0 then sp + 1 else sp) ++ (gR c2 sa S.toNat q ++ (gB c1 q S.toNat 4 (fS lo hi su db) ++ ([])))))) ?_ (by rw [show (L - 1).toNat = L.toNat - 1 by omega]; rfl) rfl rfl
    refine j_iconst (pc := 52) C dX1_letOut_52 ?_
    refine j_newR (pc := 53) C ho 0 1 rfl rfl (C.w 5 rfl) (n := 0) (by omega) (by omega) (by show _ ≤ 50; omega) (by show _ ≤ 608; omega) dX1_letOut_53 (fun q2_ => ?_)
    refine J.perm (ws' := gN c2 q2_ 0 (fun _ => none) ++ (gB c1 (sk r 0) ((L - 1).toNat) 2 (fL (skF K 0) (skF Dm 0)) ++ (gR c2 u1_ ((L - 1).toNat) (sk r 0) ++ (gO o u1_ sa dy li (if li < Dm 0 then so else so + 1) (if li < Dm 0 then sp + 1 else sp) ++ (gR c2 sa S.toNat q ++ (gB c1 q S.toNat 4 (fS lo hi su db) ++ ([]))))))) (List.Perm.trans (List.Perm.of_eq (show _ = (gB c1 (sk r 0) ((L - 1).toNat) 2 (fL (skF K 0) (skF Dm 0)) ++ (gR c2 u1_ ((L - 1).toNat) (sk r 0) ++ (gO o u1_ sa dy li (if li < Dm 0 then so else so + 1) (if li < Dm 0 then sp + 1 else sp) ++ (gR c2 sa S.toNat q ++ (gB c1 q S.toNat 4 (fS lo hi su db) ++ ([])))))) ++ (gN c2 q2_ 0 (fun _ => none)) from rfl)) (perm_of_count (fun cnt h1_ h0_ => by simp only [wU, wS, wGS, h1_, h0_] <;> omega))) ?_
    refine J.cell (ws' := gR c2 q2_ 0 (fun _ => 0) ++ (gB c1 (sk r 0) ((L - 1).toNat) 2 (fL (skF K 0) (skF Dm 0)) ++ (gR c2 u1_ ((L - 1).toNat) (sk r 0) ++ (gO o u1_ sa dy li (if li < Dm 0 then so else so + 1) (if li < Dm 0 then sp + 1 else sp) ++ (gR c2 sa S.toNat q ++ (gB c1 q S.toNat 4 (fS lo hi su db) ++ ([]))))))) _ (At.l (k := 0) rfl) (Pu.l (k := 0) (hk := rfl) rfl) (gN0 c2 _) ?_
    refine j_astore_n (pc := 56) C (lv' := [(0, .ref o), (1, .int (zI (Dm (0 : Int)))), (2, .ref q2_)]) dX1_letOut_56 (by decide) [1, 2, 0] rfl ?_
    refine j_aload_n (pc := 57) C dX1_letOut_57 0 rfl ?_
    refine j_get (pc := 58) C (ref := "GrainSiloLaw$Sim") (T := TX1) (N := 6) hin _ (At.r (At.r (At.r (At.l (k := 0) rfl)))) rfl 5 (by decide) (C.w 6 rfl) rfl rfl dX1_letOut_58 ?_
    refine j_astore_n (pc := 61) C (lv' := [(0, .ref o), (1, .int (zI (Dm (0 : Int)))), (2, .ref q2_), (3, .ref sa)]) dX1_letOut_61 (by decide) [1, 2, 3, 0] rfl ?_
    refine j_aload_n (pc := 62) C dX1_letOut_62 3 rfl ?_
    refine j_alen (pc := 63) C _ 1 (At.r (At.r (At.r (At.r (At.l (k := 0) rfl))))) rfl (z := S) (alen_eq (by omega) (by omega)) dX1_letOut_63 ?_
    refine j_istore (pc := 64) C (lv' := [(0, .ref o), (1, .int (zI (Dm (0 : Int)))), (2, .ref q2_), (3, .ref sa), (4, .int (zI S))]) dX1_letOut_64 (by decide) [1, 2, 3, 4, 0] rfl ?_
    refine j_iconst (pc := 66) C dX1_letOut_66 ?_
    refine j_istore (pc := 67) C (lv' := [(0, .ref o), (1, .int (zI (Dm (0 : Int)))), (2, .ref q2_), (3, .ref sa), (4, .int (zI S)), (5, .int (zI 0))]) dX1_letOut_67 (by decide) [1, 2, 3, 4, 5, 0] rfl ?_
    refine J.cast (ws' := gR c2 q2_ 0 (fun _ => 0) ++ (gB c1 (fun _ => 0) 0 4 (fS (cmp (pH hi) (cutL lo) 0) (cmp (pH hi) (low1 hi) 0) (cmp (pH hi) (cutS lo su (Dm 0)) 0) (cmp (pH hi) db 0)) ++ (gB c1 (sk r 0) ((L - 1).toNat) 2 (fL (skF K 0) (skF Dm 0)) ++ (gR c2 u1_ ((L - 1).toNat) (sk r 0) ++ (gO o u1_ sa dy li (if li < Dm 0 then so else so + 1) (if li < Dm 0 then sp + 1 else sp) ++ (gR c2 sa S.toNat q ++ (gB c1 q S.toNat 4 (fS lo hi su db) ++ ([])))))))) ?_ (by rfl) rfl rfl
    refine J.cast (ws' := gR c2 q2_ ((zc (pH hi) 0 ((0 : Int))).toNat) ((fun _ => 0)) ++ (gB c1 ((fun _ => 0)) ((zc (pH hi) 0 ((0 : Int))).toNat) 4 (fS (cmp (pH hi) (cutL lo) ((0 : Int))) (cmp (pH hi) (low1 hi) ((0 : Int))) (cmp (pH hi) (cutS lo su (Dm 0)) ((0 : Int))) (cmp (pH hi) db ((0 : Int)))) ++ (gB c1 (sk r 0) ((L - 1).toNat) 2 (fL (skF K 0) (skF Dm 0)) ++ (gR c2 u1_ ((L - 1).toNat) (sk r 0) ++ (gO o u1_ sa dy li (if li < Dm 0 then so else so + 1) (if li < Dm 0 then sp + 1 else sp) ++ (gR c2 sa S.toNat q ++ (gB c1 q S.toNat 4 (fS lo hi su db) ++ ([])))))))) (lv' := [(0, .ref o), (1, .int (zI (Dm (0 : Int)))), (2, .ref q2_), (3, .ref sa), (4, .int (zI S)), (5, .int (zI (((0 : Int)))))]) ?_ (by rw [zc_0]; rfl) (by rfl) rfl
    refine J.widen (k := 18 + 2 * ((0 : Int)).toNat) (n := 272 + 21 * ((0 : Int)).toNat) (by omega) (by omega) ?_
    refine j_loop (X := Nat × (Nat → Nat)) (fun (i : Int) x9 => gR c2 x9.1 ((zc (pH hi) 0 i).toNat) x9.2 ++ (gB c1 x9.2 ((zc (pH hi) 0 i).toNat) 4 (fS (cmp (pH hi) (cutL lo) i) (cmp (pH hi) (low1 hi) i) (cmp (pH hi) (cutS lo su (Dm 0)) i) (cmp (pH hi) db i)) ++ (gB c1 (sk r 0) ((L - 1).toNat) 2 (fL (skF K 0) (skF Dm 0)) ++ (gR c2 u1_ ((L - 1).toNat) (sk r 0) ++ (gO o u1_ sa dy li (if li < Dm 0 then so else so + 1) (if li < Dm 0 then sp + 1 else sp) ++ (gR c2 sa S.toNat q ++ (gB c1 q S.toNat 4 (fS lo hi su db) ++ ([])))))))) (fun (i : Int) x9 => [(0, .ref o), (1, .int (zI (Dm (0 : Int)))), (2, .ref x9.1), (3, .ref sa), (4, .int (zI S)), (5, .int (zI i))]) (fun (i : Int) x9 => True) (fun (i : Int) => 18 + 2 * i.toNat) (fun (i : Int) => 272 + 21 * i.toNat) (0 : Int) S (by omega) ?_ ?_ ⟨q2_, fun _ => 0⟩ trivial
    · intro i x9 h0_69 h1_69 hI_69 hk_69
      obtain ⟨u, z⟩ := x9
      try dsimp only at hI_69 hk_69 ⊢
      have hz9 := zc_le (pH hi) 0 i (by omega)
      refine j_iload (pc := 69) C dX1_letOut_69 5 rfl ?_
      refine j_iload (pc := 71) C dX1_letOut_71 4 rfl ?_
      refine j_icmp_ge (pc := 73) C 175 dX1_letOut_73 (by decide) ⟨by omega, by omega⟩ ⟨by omega, by omega⟩ (fun c_73 => absurd c_73 (by omega)) (fun c_73 => ?_)
      refine j_aload_n (pc := 76) C dX1_letOut_76 3 rfl ?_
      refine j_iload (pc := 77) C dX1_letOut_77 5 rfl ?_
      refine j_aald (pc := 79) C _ 1 (g := q) (At.r (At.r (At.r (At.r (At.r (At.l (k := 0) rfl)))))) rfl (by omega) (by omega) (by omega) dX1_letOut_79 ?_
      refine j_astore (pc := 80) C (lv' := [(0, .ref o), (1, .int (zI (Dm (0 : Int)))), (2, .ref u), (3, .ref sa), (4, .int (zI S)), (5, .int (zI i)), (6, .ref (q i.toNat))]) dX1_letOut_80 (by decide) [1, 2, 3, 4, 5, 6, 0] rfl ?_
      have hs9 := hs i h0_69 h1_69
      refine j_aload (pc := 82) C dX1_letOut_82 6 rfl ?_
      refine j_iconst (pc := 84) C dX1_letOut_84 ?_
      refine j_iald (pc := 85) C _ 0 (At.r (At.r (At.r (At.r (At.r (At.r (At.l (gB_at (by omega) (by omega))))))))) rfl (by omega) (by omega) (by omega) dX1_letOut_85 ?_
      refine J.cast (ws' := gR c2 u ((zc (pH hi) 0 i).toNat) z ++ (gB c1 z ((zc (pH hi) 0 i).toNat) 4 (fS (cmp (pH hi) (cutL lo) i) (cmp (pH hi) (low1 hi) i) (cmp (pH hi) (cutS lo su (Dm 0)) i) (cmp (pH hi) db i)) ++ (gB c1 (sk r 0) ((L - 1).toNat) 2 (fL (skF K 0) (skF Dm 0)) ++ (gR c2 u1_ ((L - 1).toNat) (sk r 0) ++ (gO o u1_ sa dy li (if li < Dm 0 then so else so + 1) (if li < Dm 0 then sp + 1 else sp) ++ (gR c2 sa S.toNat q ++ (gB c1 q S.toNat 4 (fS lo hi su db) ++ ([])))))))) (lv' := [(0, .ref o), (1, .int (zI (Dm (0 : Int)))), (2, .ref u), (3, .ref sa), (4, .int (zI S)), (5, .int (zI i)), (6, .ref (q i.toNat))]) (st' := [.int (zI (hi i))]) ?_ rfl rfl rfl
      refine j_if_ne (pc := 86) C 92 dX1_letOut_86 (by decide) ⟨by omega, by omega⟩ (fun c_86 => ?_) (fun c_86 => ?_)
      · skip
        have hp9 : pH hi i = true := by unfold pH; simp [c_86]
        refine j_aload (pc := 92) C dX1_letOut_92 6 rfl ?_
        refine j_iconst (pc := 94) C dX1_letOut_94 ?_
        refine j_iald (pc := 95) C _ 0 (At.r (At.r (At.r (At.r (At.r (At.r (At.l (gB_at (by omega) (by omega))))))))) rfl (by omega) (by omega) (by omega) dX1_letOut_95 ?_
        refine J.cast (ws' := gR c2 u ((zc (pH hi) 0 i).toNat) z ++ (gB c1 z ((zc (pH hi) 0 i).toNat) 4 (fS (cmp (pH hi) (cutL lo) i) (cmp (pH hi) (low1 hi) i) (cmp (pH hi) (cutS lo su (Dm 0)) i) (cmp (pH hi) db i)) ++ (gB c1 (sk r 0) ((L - 1).toNat) 2 (fL (skF K 0) (skF Dm 0)) ++ (gR c2 u1_ ((L - 1).toNat) (sk r 0) ++ (gO o u1_ sa dy li (if li < Dm 0 then so else so + 1) (if li < Dm 0 then sp + 1 else sp) ++ (gR c2 sa S.toNat q ++ (gB c1 q S.toNat 4 (fS lo hi su db) ++ ([])))))))) (lv' := [(0, .ref o), (1, .int (zI (Dm (0 : Int)))), (2, .ref u), (3, .ref sa), (4, .int (zI S)), (5, .int (zI i)), (6, .ref (q i.toNat))]) (st' := [.int (zI (lo i))]) ?_ rfl rfl rfl
        refine j_if_ne (pc := 96) C 103 dX1_letOut_96 (by decide) ⟨by omega, by omega⟩ (fun c_96 => ?_) (fun c_96 => ?_)
        · skip
          have e1 : cutL lo i = lo i - 1 := if_neg c_96
          have e3 : cutS lo su (Dm 0) i = su i := if_neg c_96
          refine j_iconst (pc := 103) C dX1_letOut_103 ?_
          refine j_istore (pc := 104) C (lv' := [(0, .ref o), (1, .int (zI (Dm (0 : Int)))), (2, .ref u), (3, .ref sa), (4, .int (zI S)), (5, .int (zI i)), (6, .ref (q i.toNat)), (7, .int (zI 0))]) dX1_letOut_104 (by decide) [1, 2, 3, 4, 5, 6, 7, 0] rfl ?_
          refine j_aload_n (pc := 106) C dX1_letOut_106 2 rfl ?_
          refine j_iconst (pc := 107) C dX1_letOut_107 ?_
          refine j_newI (pc := 108) C (C.w 7 rfl) 0 rfl (n := 4) (by omega) (by omega) (by show _ ≤ 50; omega) (by show _ ≤ 608; omega) dX1_letOut_108 (fun q3_ => ?_)
          refine J.perm (ws' := gA c1 q3_ 4 (fun _ => 0) ++ (gR c2 u ((zc (pH hi) 0 i).toNat) z ++ (gB c1 z ((zc (pH hi) 0 i).toNat) 4 (fS (cmp (pH hi) (cutL lo) i) (cmp (pH hi) (low1 hi) i) (cmp (pH hi) (cutS lo su (Dm 0)) i) (cmp (pH hi) db i)) ++ (gB c1 (sk r 0) ((L - 1).toNat) 2 (fL (skF K 0) (skF Dm 0)) ++ (gR c2 u1_ ((L - 1).toNat) (sk r 0) ++ (gO o u1_ sa dy li (if li < Dm 0 then so else so + 1) (if li < Dm 0 then sp + 1 else sp) ++ (gR c2 sa S.toNat q ++ (gB c1 q S.toNat 4 (fS lo hi su db) ++ ([]))))))))) (List.Perm.trans (List.Perm.of_eq (show _ = (gR c2 u ((zc (pH hi) 0 i).toNat) z ++ (gB c1 z ((zc (pH hi) 0 i).toNat) 4 (fS (cmp (pH hi) (cutL lo) i) (cmp (pH hi) (low1 hi) i) (cmp (pH hi) (cutS lo su (Dm 0)) i) (cmp (pH hi) db i)) ++ (gB c1 (sk r 0) ((L - 1).toNat) 2 (fL (skF K 0) (skF Dm 0)) ++ (gR c2 u1_ ((L - 1).toNat) (sk r 0) ++ (gO o u1_ sa dy li (if li < Dm 0 then so else so + 1) (if li < Dm 0 then sp + 1 else sp) ++ (gR c2 sa S.toNat q ++ (gB c1 q S.toNat 4 (fS lo hi su db) ++ ([])))))))) ++ (gA c1 q3_ 4 (fun _ => 0)) from rfl)) (perm_of_count (fun cnt h1_ h0_ => by simp only [wU, wS, wGS, h1_, h0_] <;> omega))) ?_
          refine j_dup (pc := 110) C dX1_letOut_110 rfl ?_
          refine j_iconst (pc := 111) C dX1_letOut_111 ?_
          refine j_iload (pc := 112) C dX1_letOut_112 7 rfl ?_
          refine j_if_eq (pc := 114) C 121 dX1_letOut_114 (by decide) ⟨by omega, by omega⟩ (fun c_114 => ?_) (fun c_114 => absurd c_114 (by omega))
          refine j_aload (pc := 121) C dX1_letOut_121 6 rfl ?_
          refine j_iconst (pc := 123) C dX1_letOut_123 ?_
          refine j_iald (pc := 124) C _ 0 (At.r (At.r (At.r (At.r (At.r (At.r (At.r (At.l (gB_at (by omega) (by omega)))))))))) rfl (by omega) (by omega) (by omega) dX1_letOut_124 ?_
          refine J.cast (ws' := gA c1 q3_ 4 (fun _ => 0) ++ (gR c2 u ((zc (pH hi) 0 i).toNat) z ++ (gB c1 z ((zc (pH hi) 0 i).toNat) 4 (fS (cmp (pH hi) (cutL lo) i) (cmp (pH hi) (low1 hi) i) (cmp (pH hi) (cutS lo su (Dm 0)) i) (cmp (pH hi) db i)) ++ (gB c1 (sk r 0) ((L - 1).toNat) 2 (fL (skF K 0) (skF Dm 0)) ++ (gR c2 u1_ ((L - 1).toNat) (sk r 0) ++ (gO o u1_ sa dy li (if li < Dm 0 then so else so + 1) (if li < Dm 0 then sp + 1 else sp) ++ (gR c2 sa S.toNat q ++ (gB c1 q S.toNat 4 (fS lo hi su db) ++ ([]))))))))) (lv' := [(0, .ref o), (1, .int (zI (Dm (0 : Int)))), (2, .ref u), (3, .ref sa), (4, .int (zI S)), (5, .int (zI i)), (6, .ref (q i.toNat)), (7, .int (zI 0))]) (st' := [.int (zI (lo i)), .int (zI 0), .ref q3_, .ref q3_, .ref u]) ?_ rfl rfl rfl
          refine j_iconst (pc := 125) C dX1_letOut_125 ?_
          refine j_isub (pc := 126) C dX1_letOut_126 ?_
          refine j_iast (pc := 127) C _ 0 (At.l (k := 0) rfl) rfl (by omega) (by omega) (by omega) (ws' := gA c1 q3_ 4 (upZ (fun _ => 0) 0 ((lo i) - 1)) ++ (gR c2 u ((zc (pH hi) 0 i).toNat) z ++ (gB c1 z ((zc (pH hi) 0 i).toNat) 4 (fS (cmp (pH hi) (cutL lo) i) (cmp (pH hi) (low1 hi) i) (cmp (pH hi) (cutS lo su (Dm 0)) i) (cmp (pH hi) db i)) ++ (gB c1 (sk r 0) ((L - 1).toNat) 2 (fL (skF K 0) (skF Dm 0)) ++ (gR c2 u1_ ((L - 1).toNat) (sk r 0) ++ (gO o u1_ sa dy li (if li < Dm 0 then so else so + 1) (if li < Dm 0 then sp + 1 else sp) ++ (gR c2 sa S.toNat q ++ (gB c1 q S.toNat 4 (fS lo hi su db) ++ ([]))))))))) (Pu.l (k := 0) (hk := rfl) rfl) dX1_letOut_127 ?_
          refine j_dup (pc := 128) C dX1_letOut_128 rfl ?_
          refine j_iconst (pc := 129) C dX1_letOut_129 ?_
          refine j_aload (pc := 130) C dX1_letOut_130 6 rfl ?_
          refine j_iconst (pc := 132) C dX1_letOut_132 ?_
          refine j_iald (pc := 133) C _ 0 (At.r (At.r (At.r (At.r (At.r (At.r (At.r (At.l (gB_at (by omega) (by omega)))))))))) rfl (by omega) (by omega) (by omega) dX1_letOut_133 ?_
          refine J.cast (ws' := gA c1 q3_ 4 (upZ (fun _ => 0) 0 ((lo i) - 1)) ++ (gR c2 u ((zc (pH hi) 0 i).toNat) z ++ (gB c1 z ((zc (pH hi) 0 i).toNat) 4 (fS (cmp (pH hi) (cutL lo) i) (cmp (pH hi) (low1 hi) i) (cmp (pH hi) (cutS lo su (Dm 0)) i) (cmp (pH hi) db i)) ++ (gB c1 (sk r 0) ((L - 1).toNat) 2 (fL (skF K 0) (skF Dm 0)) ++ (gR c2 u1_ ((L - 1).toNat) (sk r 0) ++ (gO o u1_ sa dy li (if li < Dm 0 then so else so + 1) (if li < Dm 0 then sp + 1 else sp) ++ (gR c2 sa S.toNat q ++ (gB c1 q S.toNat 4 (fS lo hi su db) ++ ([]))))))))) (lv' := [(0, .ref o), (1, .int (zI (Dm (0 : Int)))), (2, .ref u), (3, .ref sa), (4, .int (zI S)), (5, .int (zI i)), (6, .ref (q i.toNat)), (7, .int (zI 0))]) (st' := [.int (zI (hi i)), .int (zI 1), .ref q3_, .ref q3_, .ref u]) ?_ rfl rfl rfl
          refine j_iconst (pc := 134) C dX1_letOut_134 ?_
          refine j_isub (pc := 135) C dX1_letOut_135 ?_
          refine j_iast (pc := 136) C _ 0 (At.l (k := 0) rfl) rfl (by omega) (by omega) (by omega) (ws' := gA c1 q3_ 4 (upZ (upZ (fun _ => 0) 0 ((lo i) - 1)) 1 ((hi i) - 1)) ++ (gR c2 u ((zc (pH hi) 0 i).toNat) z ++ (gB c1 z ((zc (pH hi) 0 i).toNat) 4 (fS (cmp (pH hi) (cutL lo) i) (cmp (pH hi) (low1 hi) i) (cmp (pH hi) (cutS lo su (Dm 0)) i) (cmp (pH hi) db i)) ++ (gB c1 (sk r 0) ((L - 1).toNat) 2 (fL (skF K 0) (skF Dm 0)) ++ (gR c2 u1_ ((L - 1).toNat) (sk r 0) ++ (gO o u1_ sa dy li (if li < Dm 0 then so else so + 1) (if li < Dm 0 then sp + 1 else sp) ++ (gR c2 sa S.toNat q ++ (gB c1 q S.toNat 4 (fS lo hi su db) ++ ([]))))))))) (Pu.l (k := 0) (hk := rfl) rfl) dX1_letOut_136 ?_
          refine j_dup (pc := 137) C dX1_letOut_137 rfl ?_
          refine j_iconst (pc := 138) C dX1_letOut_138 ?_
          refine j_iload (pc := 139) C dX1_letOut_139 7 rfl ?_
          refine j_if_eq (pc := 141) C 153 dX1_letOut_141 (by decide) ⟨by omega, by omega⟩ (fun c_141 => ?_) (fun c_141 => absurd c_141 (by omega))
          refine j_aload (pc := 153) C dX1_letOut_153 6 rfl ?_
          refine j_iconst (pc := 155) C dX1_letOut_155 ?_
          refine j_iald (pc := 156) C _ 0 (At.r (At.r (At.r (At.r (At.r (At.r (At.r (At.l (gB_at (by omega) (by omega)))))))))) rfl (by omega) (by omega) (by omega) dX1_letOut_156 ?_
          refine J.cast (ws' := gA c1 q3_ 4 (upZ (upZ (fun _ => 0) 0 ((lo i) - 1)) 1 ((hi i) - 1)) ++ (gR c2 u ((zc (pH hi) 0 i).toNat) z ++ (gB c1 z ((zc (pH hi) 0 i).toNat) 4 (fS (cmp (pH hi) (cutL lo) i) (cmp (pH hi) (low1 hi) i) (cmp (pH hi) (cutS lo su (Dm 0)) i) (cmp (pH hi) db i)) ++ (gB c1 (sk r 0) ((L - 1).toNat) 2 (fL (skF K 0) (skF Dm 0)) ++ (gR c2 u1_ ((L - 1).toNat) (sk r 0) ++ (gO o u1_ sa dy li (if li < Dm 0 then so else so + 1) (if li < Dm 0 then sp + 1 else sp) ++ (gR c2 sa S.toNat q ++ (gB c1 q S.toNat 4 (fS lo hi su db) ++ ([]))))))))) (lv' := [(0, .ref o), (1, .int (zI (Dm (0 : Int)))), (2, .ref u), (3, .ref sa), (4, .int (zI S)), (5, .int (zI i)), (6, .ref (q i.toNat)), (7, .int (zI 0))]) (st' := [.int (zI (su i)), .int (zI 2), .ref q3_, .ref q3_, .ref u]) ?_ rfl rfl rfl
          refine j_iast (pc := 157) C _ 0 (At.l (k := 0) rfl) rfl (by omega) (by omega) (by omega) (ws' := gA c1 q3_ 4 (upZ (upZ (upZ (fun _ => 0) 0 ((lo i) - 1)) 1 ((hi i) - 1)) 2 (su i)) ++ (gR c2 u ((zc (pH hi) 0 i).toNat) z ++ (gB c1 z ((zc (pH hi) 0 i).toNat) 4 (fS (cmp (pH hi) (cutL lo) i) (cmp (pH hi) (low1 hi) i) (cmp (pH hi) (cutS lo su (Dm 0)) i) (cmp (pH hi) db i)) ++ (gB c1 (sk r 0) ((L - 1).toNat) 2 (fL (skF K 0) (skF Dm 0)) ++ (gR c2 u1_ ((L - 1).toNat) (sk r 0) ++ (gO o u1_ sa dy li (if li < Dm 0 then so else so + 1) (if li < Dm 0 then sp + 1 else sp) ++ (gR c2 sa S.toNat q ++ (gB c1 q S.toNat 4 (fS lo hi su db) ++ ([]))))))))) (Pu.l (k := 0) (hk := rfl) rfl) dX1_letOut_157 ?_
          refine j_dup (pc := 158) C dX1_letOut_158 rfl ?_
          refine j_iconst (pc := 159) C dX1_letOut_159 ?_
          refine j_aload (pc := 160) C dX1_letOut_160 6 rfl ?_
          refine j_iconst (pc := 162) C dX1_letOut_162 ?_
          refine j_iald (pc := 163) C _ 0 (At.r (At.r (At.r (At.r (At.r (At.r (At.r (At.l (gB_at (by omega) (by omega)))))))))) rfl (by omega) (by omega) (by omega) dX1_letOut_163 ?_
          refine J.cast (ws' := gA c1 q3_ 4 (upZ (upZ (upZ (fun _ => 0) 0 ((lo i) - 1)) 1 ((hi i) - 1)) 2 (su i)) ++ (gR c2 u ((zc (pH hi) 0 i).toNat) z ++ (gB c1 z ((zc (pH hi) 0 i).toNat) 4 (fS (cmp (pH hi) (cutL lo) i) (cmp (pH hi) (low1 hi) i) (cmp (pH hi) (cutS lo su (Dm 0)) i) (cmp (pH hi) db i)) ++ (gB c1 (sk r 0) ((L - 1).toNat) 2 (fL (skF K 0) (skF Dm 0)) ++ (gR c2 u1_ ((L - 1).toNat) (sk r 0) ++ (gO o u1_ sa dy li (if li < Dm 0 then so else so + 1) (if li < Dm 0 then sp + 1 else sp) ++ (gR c2 sa S.toNat q ++ (gB c1 q S.toNat 4 (fS lo hi su db) ++ ([]))))))))) (lv' := [(0, .ref o), (1, .int (zI (Dm (0 : Int)))), (2, .ref u), (3, .ref sa), (4, .int (zI S)), (5, .int (zI i)), (6, .ref (q i.toNat)), (7, .int (zI 0))]) (st' := [.int (zI (db i)), .int (zI 3), .ref q3_, .ref q3_, .ref u]) ?_ rfl rfl rfl
          refine j_iast (pc := 164) C _ 0 (At.l (k := 0) rfl) rfl (by omega) (by omega) (by omega) (ws' := gA c1 q3_ 4 (upZ (upZ (upZ (upZ (fun _ => 0) 0 ((lo i) - 1)) 1 ((hi i) - 1)) 2 (su i)) 3 (db i)) ++ (gR c2 u ((zc (pH hi) 0 i).toNat) z ++ (gB c1 z ((zc (pH hi) 0 i).toNat) 4 (fS (cmp (pH hi) (cutL lo) i) (cmp (pH hi) (low1 hi) i) (cmp (pH hi) (cutS lo su (Dm 0)) i) (cmp (pH hi) db i)) ++ (gB c1 (sk r 0) ((L - 1).toNat) 2 (fL (skF K 0) (skF Dm 0)) ++ (gR c2 u1_ ((L - 1).toNat) (sk r 0) ++ (gO o u1_ sa dy li (if li < Dm 0 then so else so + 1) (if li < Dm 0 then sp + 1 else sp) ++ (gR c2 sa S.toNat q ++ (gB c1 q S.toNat 4 (fS lo hi su db) ++ ([]))))))))) (Pu.l (k := 0) (hk := rfl) rfl) dX1_letOut_164 ?_
          refine J.cast (ws' := (gA c1 q3_ 4 (upZ (upZ (upZ (upZ (fun _ => 0) 0 ((lo i) - 1)) 1 ((hi i) - 1)) 2 (su i)) 3 (db i)) ++ (gR c2 u ((zc (pH hi) 0 i).toNat) z ++ (gB c1 z ((zc (pH hi) 0 i).toNat) 4 (fS (cmp (pH hi) (cutL lo) i) (cmp (pH hi) (low1 hi) i) (cmp (pH hi) (cutS lo su (Dm 0)) i) (cmp (pH hi) db i)) ++ (gB c1 (sk r 0) ((L - 1).toNat) 2 (fL (skF K 0) (skF Dm 0)) ++ (gR c2 u1_ ((L - 1).toNat) (sk r 0) ++ (gO o u1_ sa dy li (if li < Dm 0 then so else so + 1) (if li < Dm 0 then sp + 1 else sp) ++ (gR c2 sa S.toNat q ++ (gB c1 q S.toNat 4 (fS lo hi su db) ++ ([]))))))))) ++ []) ?_ (List.append_nil _).symm rfl rfl
          refine j_callSER (pc := 165) C E1.be (E1.he ho) (As := [.ref u, .ref q3_]) (rest := []) (w0 := gA c1 q3_ 4 (upZ (upZ (upZ (upZ (fun _ => 0) 0 ((lo i) - 1)) 1 ((hi i) - 1)) 2 (su i)) 3 (db i)) ++ (gR c2 u ((zc (pH hi) 0 i).toNat) z ++ (gB c1 z ((zc (pH hi) 0 i).toNat) 4 (fS (cmp (pH hi) (cutL lo) i) (cmp (pH hi) (low1 hi) i) (cmp (pH hi) (cutS lo su (Dm 0)) i) (cmp (pH hi) db i)) ++ (gB c1 (sk r 0) ((L - 1).toNat) 2 (fL (skF K 0) (skF Dm 0)) ++ (gR c2 u1_ ((L - 1).toNat) (sk r 0) ++ (gO o u1_ sa dy li (if li < Dm 0 then so else so + 1) (if li < Dm 0 then sp + 1 else sp) ++ (gR c2 sa S.toNat q ++ (gB c1 q S.toNat 4 (fS lo hi su db) ++ ([]))))))))) (wr := []) (kX1_with l D c1 c2 c3 (gA c1 q3_ 4 (upZ (upZ (upZ (upZ (fun _ => 0) 0 ((lo i) - 1)) 1 ((hi i) - 1)) 2 (su i)) 3 (db i)) ++ (gR c2 u ((zc (pH hi) 0 i).toNat) z ++ (gB c1 z ((zc (pH hi) 0 i).toNat) 4 (fS (cmp (pH hi) (cutL lo) i) (cmp (pH hi) (low1 hi) i) (cmp (pH hi) (cutS lo su (Dm 0)) i) (cmp (pH hi) db i)) ++ (gB c1 (sk r 0) ((L - 1).toNat) 2 (fL (skF K 0) (skF Dm 0)) ++ (gR c2 u1_ ((L - 1).toNat) (sk r 0) ++ (gO o u1_ sa dy li (if li < Dm 0 then so else so + 1) (if li < Dm 0 then sp + 1 else sp) ++ (gR c2 sa S.toNat q ++ (gB c1 q S.toNat 4 (fS lo hi su db) ++ ([]))))))))) u q3_ ((zc (pH hi) 0 i).toNat) z (by omega) ⟨_, (At.r (At.l (k := 0) rfl))⟩ (fun j hj => ⟨_, _, (At.r (At.r (At.l (gB_atN hj))))⟩) ⟨_, _, (At.l (k := 0) rfl)⟩) (va_cwS 2 C.2.2.2.2.1 gX1_letOut_X1_with rfl rfl rfl (by decide +kernel) ⟨Nat.le_of_ble_eq_true rfl, Nat.le_of_ble_eq_true rfl⟩) dX1_letOut_165 rfl rfl (Nat.le_of_ble_eq_true rfl) ⟨(by show _ ≤ 50; omega), (by show _ ≤ 608; omega)⟩ (fun u4_ _ => ?_)
          refine J.sub (ws' := gR c2 u4_ (((zc (pH hi) 0 i).toNat) + 1) (fun j => if j < (zc (pH hi) 0 i).toNat then z j else q3_) ++ (gA c1 q3_ 4 (upZ (upZ (upZ (upZ (fun _ => 0) 0 ((lo i) - 1)) 1 ((hi i) - 1)) 2 (su i)) 3 (db i)) ++ (gR c2 u ((zc (pH hi) 0 i).toNat) z ++ (gB c1 z ((zc (pH hi) 0 i).toNat) 4 (fS (cmp (pH hi) (cutL lo) i) (cmp (pH hi) (low1 hi) i) (cmp (pH hi) (cutS lo su (Dm 0)) i) (cmp (pH hi) db i)) ++ (gB c1 (sk r 0) ((L - 1).toNat) 2 (fL (skF K 0) (skF Dm 0)) ++ (gR c2 u1_ ((L - 1).toNat) (sk r 0) ++ (gO o u1_ sa dy li (if li < Dm 0 then so else so + 1) (if li < Dm 0 then sp + 1 else sp) ++ (gR c2 sa S.toNat q ++ (gB c1 q S.toNat 4 (fS lo hi su db) ++ ([])))))))))) (rest := []) (perm_of_count (fun cnt h1_ h0_ => by simp only [wU, wS, wGS, h1_, h0_] <;> omega)) ?_
          refine J.sub (ws' := gR c2 u4_ (((zc (pH hi) 0 i).toNat) + 1) (fun j => if j < (zc (pH hi) 0 i).toNat then z j else q3_) ++ (gA c1 q3_ 4 (upZ (upZ (upZ (upZ (fun _ => 0) 0 ((lo i) - 1)) 1 ((hi i) - 1)) 2 (su i)) 3 (db i)) ++ (gB c1 z ((zc (pH hi) 0 i).toNat) 4 (fS (cmp (pH hi) (cutL lo) i) (cmp (pH hi) (low1 hi) i) (cmp (pH hi) (cutS lo su (Dm 0)) i) (cmp (pH hi) db i)) ++ (gB c1 (sk r 0) ((L - 1).toNat) 2 (fL (skF K 0) (skF Dm 0)) ++ (gR c2 u1_ ((L - 1).toNat) (sk r 0) ++ (gO o u1_ sa dy li (if li < Dm 0 then so else so + 1) (if li < Dm 0 then sp + 1 else sp) ++ (gR c2 sa S.toNat q ++ (gB c1 q S.toNat 4 (fS lo hi su db) ++ ([]))))))))) (rest := gR c2 u ((zc (pH hi) 0 i).toNat) z) (perm_of_count (fun cnt h1_ h0_ => by simp only [wU, wS, wGS, h1_, h0_] <;> omega)) ?_
          refine J.perm (ws' := (gB c1 z ((zc (pH hi) 0 i).toNat) 4 (fS (cmp (pH hi) (cutL lo) i) (cmp (pH hi) (low1 hi) i) (cmp (pH hi) (cutS lo su (Dm 0)) i) (cmp (pH hi) db i)) ++ gA c1 q3_ 4 (upZ (upZ (upZ (upZ (fun _ => 0) 0 ((lo i) - 1)) 1 ((hi i) - 1)) 2 (su i)) 3 (db i))) ++ (gR c2 u4_ (((zc (pH hi) 0 i).toNat) + 1) (fun j => if j < (zc (pH hi) 0 i).toNat then z j else q3_) ++ (gB c1 (sk r 0) ((L - 1).toNat) 2 (fL (skF K 0) (skF Dm 0)) ++ (gR c2 u1_ ((L - 1).toNat) (sk r 0) ++ (gO o u1_ sa dy li (if li < Dm 0 then so else so + 1) (if li < Dm 0 then sp + 1 else sp) ++ (gR c2 sa S.toNat q ++ (gB c1 q S.toNat 4 (fS lo hi su db) ++ ([])))))))) (perm_of_count (fun cnt h1_ h0_ => by simp only [wU, wS, wGS, h1_, h0_] <;> omega)) ?_
          refine J.pushS hz9.1 ?_
          refine J.cast (ws' := gB c1 (fun j => if j < (zc (pH hi) 0 i).toNat then z j else q3_) ((zc (pH hi) 0 i + 1).toNat) 4 (fS (upZ (cmp (pH hi) (cutL lo) i) (zc (pH hi) 0 i) ((lo i) - 1)) (upZ (cmp (pH hi) (low1 hi) i) (zc (pH hi) 0 i) ((hi i) - 1)) (upZ (cmp (pH hi) (cutS lo su (Dm 0)) i) (zc (pH hi) 0 i) (su i)) (upZ (cmp (pH hi) db i) (zc (pH hi) 0 i) (db i))) ++ (gR c2 u4_ ((zc (pH hi) 0 i + 1).toNat) (fun j => if j < (zc (pH hi) 0 i).toNat then z j else q3_) ++ (gB c1 (sk r 0) ((L - 1).toNat) 2 (fL (skF K 0) (skF Dm 0)) ++ (gR c2 u1_ ((L - 1).toNat) (sk r 0) ++ (gO o u1_ sa dy li (if li < Dm 0 then so else so + 1) (if li < Dm 0 then sp + 1 else sp) ++ (gR c2 sa S.toNat q ++ (gB c1 q S.toNat 4 (fS lo hi su db) ++ ([])))))))) ?_ (by rw [show (zc (pH hi) 0 i + 1).toNat = (zc (pH hi) 0 i).toNat + 1 by omega]) rfl rfl
          refine j_astore_n (pc := 168) C (lv' := [(0, .ref o), (1, .int (zI (Dm (0 : Int)))), (2, .ref u4_), (3, .ref sa), (4, .int (zI S)), (5, .int (zI i)), (6, .ref (q i.toNat)), (7, .int (zI 0))]) dX1_letOut_168 (by decide) [1, 2, 0, 3, 4, 5, 6, 7] rfl ?_
          refine j_iinc (pc := 169) C (x := i) (lv' := [(0, .ref o), (1, .int (zI (Dm (0 : Int)))), (2, .ref u4_), (3, .ref sa), (4, .int (zI S)), (5, .int (zI (i + 1))), (6, .ref (q i.toNat)), (7, .int (zI 0))]) dX1_letOut_169 5 rfl (by decide) [1, 2, 3, 4, 5, 0, 6, 7] rfl ?_
          refine j_goto (pc := 172) C 69 dX1_letOut_172 (by decide) ?_
          refine J.sub (ws' := gR c2 u4_ ((zc (pH hi) 0 i + 1).toNat) (fun j => if j < (zc (pH hi) 0 i).toNat then z j else q3_) ++ (gB c1 (fun j => if j < (zc (pH hi) 0 i).toNat then z j else q3_) ((zc (pH hi) 0 i + 1).toNat) 4 (fS (upZ (cmp (pH hi) (cutL lo) i) (zc (pH hi) 0 i) ((lo i) - 1)) (upZ (cmp (pH hi) (low1 hi) i) (zc (pH hi) 0 i) ((hi i) - 1)) (upZ (cmp (pH hi) (cutS lo su (Dm 0)) i) (zc (pH hi) 0 i) (su i)) (upZ (cmp (pH hi) db i) (zc (pH hi) 0 i) (db i))) ++ (gB c1 (sk r 0) ((L - 1).toNat) 2 (fL (skF K 0) (skF Dm 0)) ++ (gR c2 u1_ ((L - 1).toNat) (sk r 0) ++ (gO o u1_ sa dy li (if li < Dm 0 then so else so + 1) (if li < Dm 0 then sp + 1 else sp) ++ (gR c2 sa S.toNat q ++ (gB c1 q S.toNat 4 (fS lo hi su db) ++ ([])))))))) (rest := []) (perm_of_count (fun cnt h1_ h0_ => by simp only [wU, wS, wGS, h1_, h0_] <;> omega)) ?_
          refine J.pick (lv' := [(0, .ref o), (1, .int (zI (Dm (0 : Int)))), (2, .ref u4_), (3, .ref sa), (4, .int (zI S)), (5, .int (zI (i + 1)))]) [0, 1, 2, 3, 4, 5] rfl ?_
          exact J.widen (by omega) (by omega) (J.cast (hk_69 ⟨u4_, fun j => if j < (zc (pH hi) 0 i).toNat then z j else q3_⟩ trivial) (by rw [zc_t (pH hi) 0 i (by omega) hp9, cmp_t (pH hi) _ i (by omega) hp9, cmp_t (pH hi) _ i (by omega) hp9, cmp_t (pH hi) _ i (by omega) hp9, cmp_t (pH hi) _ i (by omega) hp9, e1, e3, show low1 hi i = hi i - 1 from rfl] <;> rfl) (by rfl) rfl)
        · skip
          have e1 : cutL lo i = 0 := if_pos c_96
          have e3 : cutS lo su (Dm 0) i = su i - Dm 0 := if_pos c_96
          refine j_iconst (pc := 99) C dX1_letOut_99 ?_
          refine j_goto (pc := 100) C 104 dX1_letOut_100 (by decide) ?_
          refine j_istore (pc := 104) C (lv' := [(0, .ref o), (1, .int (zI (Dm (0 : Int)))), (2, .ref u), (3, .ref sa), (4, .int (zI S)), (5, .int (zI i)), (6, .ref (q i.toNat)), (7, .int (zI 1))]) dX1_letOut_104 (by decide) [1, 2, 3, 4, 5, 6, 7, 0] rfl ?_
          refine j_aload_n (pc := 106) C dX1_letOut_106 2 rfl ?_
          refine j_iconst (pc := 107) C dX1_letOut_107 ?_
          refine j_newI (pc := 108) C (C.w 7 rfl) 0 rfl (n := 4) (by omega) (by omega) (by show _ ≤ 50; omega) (by show _ ≤ 608; omega) dX1_letOut_108 (fun q5_ => ?_)
          refine J.perm (ws' := gA c1 q5_ 4 (fun _ => 0) ++ (gR c2 u ((zc (pH hi) 0 i).toNat) z ++ (gB c1 z ((zc (pH hi) 0 i).toNat) 4 (fS (cmp (pH hi) (cutL lo) i) (cmp (pH hi) (low1 hi) i) (cmp (pH hi) (cutS lo su (Dm 0)) i) (cmp (pH hi) db i)) ++ (gB c1 (sk r 0) ((L - 1).toNat) 2 (fL (skF K 0) (skF Dm 0)) ++ (gR c2 u1_ ((L - 1).toNat) (sk r 0) ++ (gO o u1_ sa dy li (if li < Dm 0 then so else so + 1) (if li < Dm 0 then sp + 1 else sp) ++ (gR c2 sa S.toNat q ++ (gB c1 q S.toNat 4 (fS lo hi su db) ++ ([]))))))))) (List.Perm.trans (List.Perm.of_eq (show _ = (gR c2 u ((zc (pH hi) 0 i).toNat) z ++ (gB c1 z ((zc (pH hi) 0 i).toNat) 4 (fS (cmp (pH hi) (cutL lo) i) (cmp (pH hi) (low1 hi) i) (cmp (pH hi) (cutS lo su (Dm 0)) i) (cmp (pH hi) db i)) ++ (gB c1 (sk r 0) ((L - 1).toNat) 2 (fL (skF K 0) (skF Dm 0)) ++ (gR c2 u1_ ((L - 1).toNat) (sk r 0) ++ (gO o u1_ sa dy li (if li < Dm 0 then so else so + 1) (if li < Dm 0 then sp + 1 else sp) ++ (gR c2 sa S.toNat q ++ (gB c1 q S.toNat 4 (fS lo hi su db) ++ ([])))))))) ++ (gA c1 q5_ 4 (fun _ => 0)) from rfl)) (perm_of_count (fun cnt h1_ h0_ => by simp only [wU, wS, wGS, h1_, h0_] <;> omega))) ?_
          refine j_dup (pc := 110) C dX1_letOut_110 rfl ?_
          refine j_iconst (pc := 111) C dX1_letOut_111 ?_
          refine j_iload (pc := 112) C dX1_letOut_112 7 rfl ?_
          refine j_if_eq (pc := 114) C 121 dX1_letOut_114 (by decide) ⟨by omega, by omega⟩ (fun c_114 => absurd c_114 (by omega)) (fun c_114 => ?_)
          refine j_iconst (pc := 117) C dX1_letOut_117 ?_
          refine j_goto (pc := 118) C 127 dX1_letOut_118 (by decide) ?_
          refine j_iast (pc := 127) C _ 0 (At.l (k := 0) rfl) rfl (by omega) (by omega) (by omega) (ws' := gA c1 q5_ 4 (upZ (fun _ => 0) 0 0) ++ (gR c2 u ((zc (pH hi) 0 i).toNat) z ++ (gB c1 z ((zc (pH hi) 0 i).toNat) 4 (fS (cmp (pH hi) (cutL lo) i) (cmp (pH hi) (low1 hi) i) (cmp (pH hi) (cutS lo su (Dm 0)) i) (cmp (pH hi) db i)) ++ (gB c1 (sk r 0) ((L - 1).toNat) 2 (fL (skF K 0) (skF Dm 0)) ++ (gR c2 u1_ ((L - 1).toNat) (sk r 0) ++ (gO o u1_ sa dy li (if li < Dm 0 then so else so + 1) (if li < Dm 0 then sp + 1 else sp) ++ (gR c2 sa S.toNat q ++ (gB c1 q S.toNat 4 (fS lo hi su db) ++ ([]))))))))) (Pu.l (k := 0) (hk := rfl) rfl) dX1_letOut_127 ?_
          refine j_dup (pc := 128) C dX1_letOut_128 rfl ?_
          refine j_iconst (pc := 129) C dX1_letOut_129 ?_
          refine j_aload (pc := 130) C dX1_letOut_130 6 rfl ?_
          refine j_iconst (pc := 132) C dX1_letOut_132 ?_
          refine j_iald (pc := 133) C _ 0 (At.r (At.r (At.r (At.r (At.r (At.r (At.r (At.l (gB_at (by omega) (by omega)))))))))) rfl (by omega) (by omega) (by omega) dX1_letOut_133 ?_
          refine J.cast (ws' := gA c1 q5_ 4 (upZ (fun _ => 0) 0 0) ++ (gR c2 u ((zc (pH hi) 0 i).toNat) z ++ (gB c1 z ((zc (pH hi) 0 i).toNat) 4 (fS (cmp (pH hi) (cutL lo) i) (cmp (pH hi) (low1 hi) i) (cmp (pH hi) (cutS lo su (Dm 0)) i) (cmp (pH hi) db i)) ++ (gB c1 (sk r 0) ((L - 1).toNat) 2 (fL (skF K 0) (skF Dm 0)) ++ (gR c2 u1_ ((L - 1).toNat) (sk r 0) ++ (gO o u1_ sa dy li (if li < Dm 0 then so else so + 1) (if li < Dm 0 then sp + 1 else sp) ++ (gR c2 sa S.toNat q ++ (gB c1 q S.toNat 4 (fS lo hi su db) ++ ([]))))))))) (lv' := [(0, .ref o), (1, .int (zI (Dm (0 : Int)))), (2, .ref u), (3, .ref sa), (4, .int (zI S)), (5, .int (zI i)), (6, .ref (q i.toNat)), (7, .int (zI 1))]) (st' := [.int (zI (hi i)), .int (zI 1), .ref q5_, .ref q5_, .ref u]) ?_ rfl rfl rfl
          refine j_iconst (pc := 134) C dX1_letOut_134 ?_
          refine j_isub (pc := 135) C dX1_letOut_135 ?_
          refine j_iast (pc := 136) C _ 0 (At.l (k := 0) rfl) rfl (by omega) (by omega) (by omega) (ws' := gA c1 q5_ 4 (upZ (upZ (fun _ => 0) 0 0) 1 ((hi i) - 1)) ++ (gR c2 u ((zc (pH hi) 0 i).toNat) z ++ (gB c1 z ((zc (pH hi) 0 i).toNat) 4 (fS (cmp (pH hi) (cutL lo) i) (cmp (pH hi) (low1 hi) i) (cmp (pH hi) (cutS lo su (Dm 0)) i) (cmp (pH hi) db i)) ++ (gB c1 (sk r 0) ((L - 1).toNat) 2 (fL (skF K 0) (skF Dm 0)) ++ (gR c2 u1_ ((L - 1).toNat) (sk r 0) ++ (gO o u1_ sa dy li (if li < Dm 0 then so else so + 1) (if li < Dm 0 then sp + 1 else sp) ++ (gR c2 sa S.toNat q ++ (gB c1 q S.toNat 4 (fS lo hi su db) ++ ([]))))))))) (Pu.l (k := 0) (hk := rfl) rfl) dX1_letOut_136 ?_
          refine j_dup (pc := 137) C dX1_letOut_137 rfl ?_
          refine j_iconst (pc := 138) C dX1_letOut_138 ?_
          refine j_iload (pc := 139) C dX1_letOut_139 7 rfl ?_
          refine j_if_eq (pc := 141) C 153 dX1_letOut_141 (by decide) ⟨by omega, by omega⟩ (fun c_141 => absurd c_141 (by omega)) (fun c_141 => ?_)
          refine j_aload (pc := 144) C dX1_letOut_144 6 rfl ?_
          refine j_iconst (pc := 146) C dX1_letOut_146 ?_
          refine j_iald (pc := 147) C _ 0 (At.r (At.r (At.r (At.r (At.r (At.r (At.r (At.l (gB_at (by omega) (by omega)))))))))) rfl (by omega) (by omega) (by omega) dX1_letOut_147 ?_
          refine J.cast (ws' := gA c1 q5_ 4 (upZ (upZ (fun _ => 0) 0 0) 1 ((hi i) - 1)) ++ (gR c2 u ((zc (pH hi) 0 i).toNat) z ++ (gB c1 z ((zc (pH hi) 0 i).toNat) 4 (fS (cmp (pH hi) (cutL lo) i) (cmp (pH hi) (low1 hi) i) (cmp (pH hi) (cutS lo su (Dm 0)) i) (cmp (pH hi) db i)) ++ (gB c1 (sk r 0) ((L - 1).toNat) 2 (fL (skF K 0) (skF Dm 0)) ++ (gR c2 u1_ ((L - 1).toNat) (sk r 0) ++ (gO o u1_ sa dy li (if li < Dm 0 then so else so + 1) (if li < Dm 0 then sp + 1 else sp) ++ (gR c2 sa S.toNat q ++ (gB c1 q S.toNat 4 (fS lo hi su db) ++ ([]))))))))) (lv' := [(0, .ref o), (1, .int (zI (Dm (0 : Int)))), (2, .ref u), (3, .ref sa), (4, .int (zI S)), (5, .int (zI i)), (6, .ref (q i.toNat)), (7, .int (zI 1))]) (st' := [.int (zI (su i)), .int (zI 2), .ref q5_, .ref q5_, .ref u]) ?_ rfl rfl rfl
          refine j_iload_n (pc := 148) C dX1_letOut_148 1 rfl ?_
          refine j_isub (pc := 149) C dX1_letOut_149 ?_
          refine j_goto (pc := 150) C 157 dX1_letOut_150 (by decide) ?_
          refine j_iast (pc := 157) C _ 0 (At.l (k := 0) rfl) rfl (by omega) (by omega) (by omega) (ws' := gA c1 q5_ 4 (upZ (upZ (upZ (fun _ => 0) 0 0) 1 ((hi i) - 1)) 2 ((su i) - (Dm (0 : Int)))) ++ (gR c2 u ((zc (pH hi) 0 i).toNat) z ++ (gB c1 z ((zc (pH hi) 0 i).toNat) 4 (fS (cmp (pH hi) (cutL lo) i) (cmp (pH hi) (low1 hi) i) (cmp (pH hi) (cutS lo su (Dm 0)) i) (cmp (pH hi) db i)) ++ (gB c1 (sk r 0) ((L - 1).toNat) 2 (fL (skF K 0) (skF Dm 0)) ++ (gR c2 u1_ ((L - 1).toNat) (sk r 0) ++ (gO o u1_ sa dy li (if li < Dm 0 then so else so + 1) (if li < Dm 0 then sp + 1 else sp) ++ (gR c2 sa S.toNat q ++ (gB c1 q S.toNat 4 (fS lo hi su db) ++ ([]))))))))) (Pu.l (k := 0) (hk := rfl) rfl) dX1_letOut_157 ?_
          refine j_dup (pc := 158) C dX1_letOut_158 rfl ?_
          refine j_iconst (pc := 159) C dX1_letOut_159 ?_
          refine j_aload (pc := 160) C dX1_letOut_160 6 rfl ?_
          refine j_iconst (pc := 162) C dX1_letOut_162 ?_
          refine j_iald (pc := 163) C _ 0 (At.r (At.r (At.r (At.r (At.r (At.r (At.r (At.l (gB_at (by omega) (by omega)))))))))) rfl (by omega) (by omega) (by omega) dX1_letOut_163 ?_
          refine J.cast (ws' := gA c1 q5_ 4 (upZ (upZ (upZ (fun _ => 0) 0 0) 1 ((hi i) - 1)) 2 ((su i) - (Dm (0 : Int)))) ++ (gR c2 u ((zc (pH hi) 0 i).toNat) z ++ (gB c1 z ((zc (pH hi) 0 i).toNat) 4 (fS (cmp (pH hi) (cutL lo) i) (cmp (pH hi) (low1 hi) i) (cmp (pH hi) (cutS lo su (Dm 0)) i) (cmp (pH hi) db i)) ++ (gB c1 (sk r 0) ((L - 1).toNat) 2 (fL (skF K 0) (skF Dm 0)) ++ (gR c2 u1_ ((L - 1).toNat) (sk r 0) ++ (gO o u1_ sa dy li (if li < Dm 0 then so else so + 1) (if li < Dm 0 then sp + 1 else sp) ++ (gR c2 sa S.toNat q ++ (gB c1 q S.toNat 4 (fS lo hi su db) ++ ([]))))))))) (lv' := [(0, .ref o), (1, .int (zI (Dm (0 : Int)))), (2, .ref u), (3, .ref sa), (4, .int (zI S)), (5, .int (zI i)), (6, .ref (q i.toNat)), (7, .int (zI 1))]) (st' := [.int (zI (db i)), .int (zI 3), .ref q5_, .ref q5_, .ref u]) ?_ rfl rfl rfl
          refine j_iast (pc := 164) C _ 0 (At.l (k := 0) rfl) rfl (by omega) (by omega) (by omega) (ws' := gA c1 q5_ 4 (upZ (upZ (upZ (upZ (fun _ => 0) 0 0) 1 ((hi i) - 1)) 2 ((su i) - (Dm (0 : Int)))) 3 (db i)) ++ (gR c2 u ((zc (pH hi) 0 i).toNat) z ++ (gB c1 z ((zc (pH hi) 0 i).toNat) 4 (fS (cmp (pH hi) (cutL lo) i) (cmp (pH hi) (low1 hi) i) (cmp (pH hi) (cutS lo su (Dm 0)) i) (cmp (pH hi) db i)) ++ (gB c1 (sk r 0) ((L - 1).toNat) 2 (fL (skF K 0) (skF Dm 0)) ++ (gR c2 u1_ ((L - 1).toNat) (sk r 0) ++ (gO o u1_ sa dy li (if li < Dm 0 then so else so + 1) (if li < Dm 0 then sp + 1 else sp) ++ (gR c2 sa S.toNat q ++ (gB c1 q S.toNat 4 (fS lo hi su db) ++ ([]))))))))) (Pu.l (k := 0) (hk := rfl) rfl) dX1_letOut_164 ?_
          refine J.cast (ws' := (gA c1 q5_ 4 (upZ (upZ (upZ (upZ (fun _ => 0) 0 0) 1 ((hi i) - 1)) 2 ((su i) - (Dm (0 : Int)))) 3 (db i)) ++ (gR c2 u ((zc (pH hi) 0 i).toNat) z ++ (gB c1 z ((zc (pH hi) 0 i).toNat) 4 (fS (cmp (pH hi) (cutL lo) i) (cmp (pH hi) (low1 hi) i) (cmp (pH hi) (cutS lo su (Dm 0)) i) (cmp (pH hi) db i)) ++ (gB c1 (sk r 0) ((L - 1).toNat) 2 (fL (skF K 0) (skF Dm 0)) ++ (gR c2 u1_ ((L - 1).toNat) (sk r 0) ++ (gO o u1_ sa dy li (if li < Dm 0 then so else so + 1) (if li < Dm 0 then sp + 1 else sp) ++ (gR c2 sa S.toNat q ++ (gB c1 q S.toNat 4 (fS lo hi su db) ++ ([]))))))))) ++ []) ?_ (List.append_nil _).symm rfl rfl
          refine j_callSER (pc := 165) C E1.be (E1.he ho) (As := [.ref u, .ref q5_]) (rest := []) (w0 := gA c1 q5_ 4 (upZ (upZ (upZ (upZ (fun _ => 0) 0 0) 1 ((hi i) - 1)) 2 ((su i) - (Dm (0 : Int)))) 3 (db i)) ++ (gR c2 u ((zc (pH hi) 0 i).toNat) z ++ (gB c1 z ((zc (pH hi) 0 i).toNat) 4 (fS (cmp (pH hi) (cutL lo) i) (cmp (pH hi) (low1 hi) i) (cmp (pH hi) (cutS lo su (Dm 0)) i) (cmp (pH hi) db i)) ++ (gB c1 (sk r 0) ((L - 1).toNat) 2 (fL (skF K 0) (skF Dm 0)) ++ (gR c2 u1_ ((L - 1).toNat) (sk r 0) ++ (gO o u1_ sa dy li (if li < Dm 0 then so else so + 1) (if li < Dm 0 then sp + 1 else sp) ++ (gR c2 sa S.toNat q ++ (gB c1 q S.toNat 4 (fS lo hi su db) ++ ([]))))))))) (wr := []) (kX1_with l D c1 c2 c3 (gA c1 q5_ 4 (upZ (upZ (upZ (upZ (fun _ => 0) 0 0) 1 ((hi i) - 1)) 2 ((su i) - (Dm (0 : Int)))) 3 (db i)) ++ (gR c2 u ((zc (pH hi) 0 i).toNat) z ++ (gB c1 z ((zc (pH hi) 0 i).toNat) 4 (fS (cmp (pH hi) (cutL lo) i) (cmp (pH hi) (low1 hi) i) (cmp (pH hi) (cutS lo su (Dm 0)) i) (cmp (pH hi) db i)) ++ (gB c1 (sk r 0) ((L - 1).toNat) 2 (fL (skF K 0) (skF Dm 0)) ++ (gR c2 u1_ ((L - 1).toNat) (sk r 0) ++ (gO o u1_ sa dy li (if li < Dm 0 then so else so + 1) (if li < Dm 0 then sp + 1 else sp) ++ (gR c2 sa S.toNat q ++ (gB c1 q S.toNat 4 (fS lo hi su db) ++ ([]))))))))) u q5_ ((zc (pH hi) 0 i).toNat) z (by omega) ⟨_, (At.r (At.l (k := 0) rfl))⟩ (fun j hj => ⟨_, _, (At.r (At.r (At.l (gB_atN hj))))⟩) ⟨_, _, (At.l (k := 0) rfl)⟩) (va_cwS 2 C.2.2.2.2.1 gX1_letOut_X1_with rfl rfl rfl (by decide +kernel) ⟨Nat.le_of_ble_eq_true rfl, Nat.le_of_ble_eq_true rfl⟩) dX1_letOut_165 rfl rfl (Nat.le_of_ble_eq_true rfl) ⟨(by show _ ≤ 50; omega), (by show _ ≤ 608; omega)⟩ (fun u6_ _ => ?_)
          refine J.sub (ws' := gR c2 u6_ (((zc (pH hi) 0 i).toNat) + 1) (fun j => if j < (zc (pH hi) 0 i).toNat then z j else q5_) ++ (gA c1 q5_ 4 (upZ (upZ (upZ (upZ (fun _ => 0) 0 0) 1 ((hi i) - 1)) 2 ((su i) - (Dm (0 : Int)))) 3 (db i)) ++ (gR c2 u ((zc (pH hi) 0 i).toNat) z ++ (gB c1 z ((zc (pH hi) 0 i).toNat) 4 (fS (cmp (pH hi) (cutL lo) i) (cmp (pH hi) (low1 hi) i) (cmp (pH hi) (cutS lo su (Dm 0)) i) (cmp (pH hi) db i)) ++ (gB c1 (sk r 0) ((L - 1).toNat) 2 (fL (skF K 0) (skF Dm 0)) ++ (gR c2 u1_ ((L - 1).toNat) (sk r 0) ++ (gO o u1_ sa dy li (if li < Dm 0 then so else so + 1) (if li < Dm 0 then sp + 1 else sp) ++ (gR c2 sa S.toNat q ++ (gB c1 q S.toNat 4 (fS lo hi su db) ++ ([])))))))))) (rest := []) (perm_of_count (fun cnt h1_ h0_ => by simp only [wU, wS, wGS, h1_, h0_] <;> omega)) ?_
          refine J.sub (ws' := gR c2 u6_ (((zc (pH hi) 0 i).toNat) + 1) (fun j => if j < (zc (pH hi) 0 i).toNat then z j else q5_) ++ (gA c1 q5_ 4 (upZ (upZ (upZ (upZ (fun _ => 0) 0 0) 1 ((hi i) - 1)) 2 ((su i) - (Dm (0 : Int)))) 3 (db i)) ++ (gB c1 z ((zc (pH hi) 0 i).toNat) 4 (fS (cmp (pH hi) (cutL lo) i) (cmp (pH hi) (low1 hi) i) (cmp (pH hi) (cutS lo su (Dm 0)) i) (cmp (pH hi) db i)) ++ (gB c1 (sk r 0) ((L - 1).toNat) 2 (fL (skF K 0) (skF Dm 0)) ++ (gR c2 u1_ ((L - 1).toNat) (sk r 0) ++ (gO o u1_ sa dy li (if li < Dm 0 then so else so + 1) (if li < Dm 0 then sp + 1 else sp) ++ (gR c2 sa S.toNat q ++ (gB c1 q S.toNat 4 (fS lo hi su db) ++ ([]))))))))) (rest := gR c2 u ((zc (pH hi) 0 i).toNat) z) (perm_of_count (fun cnt h1_ h0_ => by simp only [wU, wS, wGS, h1_, h0_] <;> omega)) ?_
          refine J.perm (ws' := (gB c1 z ((zc (pH hi) 0 i).toNat) 4 (fS (cmp (pH hi) (cutL lo) i) (cmp (pH hi) (low1 hi) i) (cmp (pH hi) (cutS lo su (Dm 0)) i) (cmp (pH hi) db i)) ++ gA c1 q5_ 4 (upZ (upZ (upZ (upZ (fun _ => 0) 0 0) 1 ((hi i) - 1)) 2 ((su i) - (Dm (0 : Int)))) 3 (db i))) ++ (gR c2 u6_ (((zc (pH hi) 0 i).toNat) + 1) (fun j => if j < (zc (pH hi) 0 i).toNat then z j else q5_) ++ (gB c1 (sk r 0) ((L - 1).toNat) 2 (fL (skF K 0) (skF Dm 0)) ++ (gR c2 u1_ ((L - 1).toNat) (sk r 0) ++ (gO o u1_ sa dy li (if li < Dm 0 then so else so + 1) (if li < Dm 0 then sp + 1 else sp) ++ (gR c2 sa S.toNat q ++ (gB c1 q S.toNat 4 (fS lo hi su db) ++ ([])))))))) (perm_of_count (fun cnt h1_ h0_ => by simp only [wU, wS, wGS, h1_, h0_] <;> omega)) ?_
          refine J.pushS hz9.1 ?_
          refine J.cast (ws' := gB c1 (fun j => if j < (zc (pH hi) 0 i).toNat then z j else q5_) ((zc (pH hi) 0 i + 1).toNat) 4 (fS (upZ (cmp (pH hi) (cutL lo) i) (zc (pH hi) 0 i) 0) (upZ (cmp (pH hi) (low1 hi) i) (zc (pH hi) 0 i) ((hi i) - 1)) (upZ (cmp (pH hi) (cutS lo su (Dm 0)) i) (zc (pH hi) 0 i) ((su i) - (Dm (0 : Int)))) (upZ (cmp (pH hi) db i) (zc (pH hi) 0 i) (db i))) ++ (gR c2 u6_ ((zc (pH hi) 0 i + 1).toNat) (fun j => if j < (zc (pH hi) 0 i).toNat then z j else q5_) ++ (gB c1 (sk r 0) ((L - 1).toNat) 2 (fL (skF K 0) (skF Dm 0)) ++ (gR c2 u1_ ((L - 1).toNat) (sk r 0) ++ (gO o u1_ sa dy li (if li < Dm 0 then so else so + 1) (if li < Dm 0 then sp + 1 else sp) ++ (gR c2 sa S.toNat q ++ (gB c1 q S.toNat 4 (fS lo hi su db) ++ ([])))))))) ?_ (by rw [show (zc (pH hi) 0 i + 1).toNat = (zc (pH hi) 0 i).toNat + 1 by omega]) rfl rfl
          refine j_astore_n (pc := 168) C (lv' := [(0, .ref o), (1, .int (zI (Dm (0 : Int)))), (2, .ref u6_), (3, .ref sa), (4, .int (zI S)), (5, .int (zI i)), (6, .ref (q i.toNat)), (7, .int (zI 1))]) dX1_letOut_168 (by decide) [1, 2, 0, 3, 4, 5, 6, 7] rfl ?_
          refine j_iinc (pc := 169) C (x := i) (lv' := [(0, .ref o), (1, .int (zI (Dm (0 : Int)))), (2, .ref u6_), (3, .ref sa), (4, .int (zI S)), (5, .int (zI (i + 1))), (6, .ref (q i.toNat)), (7, .int (zI 1))]) dX1_letOut_169 5 rfl (by decide) [1, 2, 3, 4, 5, 0, 6, 7] rfl ?_
          refine j_goto (pc := 172) C 69 dX1_letOut_172 (by decide) ?_
          refine J.sub (ws' := gR c2 u6_ ((zc (pH hi) 0 i + 1).toNat) (fun j => if j < (zc (pH hi) 0 i).toNat then z j else q5_) ++ (gB c1 (fun j => if j < (zc (pH hi) 0 i).toNat then z j else q5_) ((zc (pH hi) 0 i + 1).toNat) 4 (fS (upZ (cmp (pH hi) (cutL lo) i) (zc (pH hi) 0 i) 0) (upZ (cmp (pH hi) (low1 hi) i) (zc (pH hi) 0 i) ((hi i) - 1)) (upZ (cmp (pH hi) (cutS lo su (Dm 0)) i) (zc (pH hi) 0 i) ((su i) - (Dm (0 : Int)))) (upZ (cmp (pH hi) db i) (zc (pH hi) 0 i) (db i))) ++ (gB c1 (sk r 0) ((L - 1).toNat) 2 (fL (skF K 0) (skF Dm 0)) ++ (gR c2 u1_ ((L - 1).toNat) (sk r 0) ++ (gO o u1_ sa dy li (if li < Dm 0 then so else so + 1) (if li < Dm 0 then sp + 1 else sp) ++ (gR c2 sa S.toNat q ++ (gB c1 q S.toNat 4 (fS lo hi su db) ++ ([])))))))) (rest := []) (perm_of_count (fun cnt h1_ h0_ => by simp only [wU, wS, wGS, h1_, h0_] <;> omega)) ?_
          refine J.pick (lv' := [(0, .ref o), (1, .int (zI (Dm (0 : Int)))), (2, .ref u6_), (3, .ref sa), (4, .int (zI S)), (5, .int (zI (i + 1)))]) [0, 1, 2, 3, 4, 5] rfl ?_
          exact J.widen (by omega) (by omega) (J.cast (hk_69 ⟨u6_, fun j => if j < (zc (pH hi) 0 i).toNat then z j else q5_⟩ trivial) (by rw [zc_t (pH hi) 0 i (by omega) hp9, cmp_t (pH hi) _ i (by omega) hp9, cmp_t (pH hi) _ i (by omega) hp9, cmp_t (pH hi) _ i (by omega) hp9, cmp_t (pH hi) _ i (by omega) hp9, e1, e3, show low1 hi i = hi i - 1 from rfl] <;> rfl) (by rfl) rfl)
      · skip
        have hp9 : pH hi i = false := by unfold pH; simp [c_86]
        refine j_goto (pc := 89) C 169 dX1_letOut_89 (by decide) ?_
        refine j_iinc (pc := 169) C (x := i) (lv' := [(0, .ref o), (1, .int (zI (Dm (0 : Int)))), (2, .ref u), (3, .ref sa), (4, .int (zI S)), (5, .int (zI (i + 1))), (6, .ref (q i.toNat))]) dX1_letOut_169 5 rfl (by decide) [1, 2, 3, 4, 5, 0, 6] rfl ?_
        refine j_goto (pc := 172) C 69 dX1_letOut_172 (by decide) ?_
        refine J.pick (lv' := [(0, .ref o), (1, .int (zI (Dm (0 : Int)))), (2, .ref u), (3, .ref sa), (4, .int (zI S)), (5, .int (zI (i + 1)))]) [0, 1, 2, 3, 4, 5] rfl ?_
        exact J.widen (by omega) (by omega) (J.cast (hk_69 ⟨u, z⟩ trivial) (by rw [zc_f (pH hi) 0 i (by omega) hp9, cmp_f (pH hi) _ i (by omega) hp9, cmp_f (pH hi) _ i (by omega) hp9, cmp_f (pH hi) _ i (by omega) hp9, cmp_f (pH hi) _ i (by omega) hp9] <;> rfl) (by rfl) rfl)
    · intro x9 hI_69
      obtain ⟨u, z⟩ := x9
      try dsimp only at hI_69 ⊢
      have hz8 := zc_le (pH hi) 0 S hS0
      refine j_iload (pc := 69) C dX1_letOut_69 5 rfl ?_
      refine j_iload (pc := 71) C dX1_letOut_71 4 rfl ?_
      refine j_icmp_ge (pc := 73) C 175 dX1_letOut_73 (by decide) ⟨by omega, by omega⟩ ⟨by omega, by omega⟩ (fun c_73 => ?_) (fun c_73 => absurd c_73 (by omega))
      refine j_aload_n (pc := 175) C dX1_letOut_175 0 rfl ?_
      refine j_aload_n (pc := 176) C dX1_letOut_176 2 rfl ?_
      refine j_putR (pc := 177) C (ref := "GrainSiloLaw$Sim") (T := TX1) (N := 6) (ws' := gR c2 u ((zc (pH hi) 0 S).toNat) z ++ (gB c1 z ((zc (pH hi) 0 S).toNat) 4 (fS (cmp (pH hi) (cutL lo) S) (cmp (pH hi) (low1 hi) S) (cmp (pH hi) (cutS lo su (Dm 0)) S) (cmp (pH hi) db S)) ++ (gB c1 (sk r 0) ((L - 1).toNat) 2 (fL (skF K 0) (skF Dm 0)) ++ (gR c2 u1_ ((L - 1).toNat) (sk r 0) ++ (gO o u1_ u dy li (if li < Dm 0 then so else so + 1) (if li < Dm 0 then sp + 1 else sp) ++ (gR c2 sa S.toNat q ++ (gB c1 q S.toNat 4 (fS lo hi su db) ++ ([])))))))) hin tyX1 tyX1_ok nmX1 _ (At.r (At.r (At.r (At.r (At.l (k := 0) rfl))))) rfl 5 (by decide) (C.w 6 rfl) rfl rfl (by decide +kernel) (Nat.le_of_ble_eq_true rfl) (Pu.r (Pu.r (Pu.r (Pu.r (Pu.l (k := 0) (hk := rfl) rfl))))) dX1_letOut_177 ?_
      refine J.sub (ws' := gR c2 u ((zc (pH hi) 0 S).toNat) z ++ (gB c1 z ((zc (pH hi) 0 S).toNat) 4 (fS (cmp (pH hi) (cutL lo) S) (cmp (pH hi) (low1 hi) S) (cmp (pH hi) (cutS lo su (Dm 0)) S) (cmp (pH hi) db S)) ++ (gB c1 (sk r 0) ((L - 1).toNat) 2 (fL (skF K 0) (skF Dm 0)) ++ (gR c2 u1_ ((L - 1).toNat) (sk r 0) ++ (gO o u1_ u dy li (if li < Dm 0 then so else so + 1) (if li < Dm 0 then sp + 1 else sp) ++ ([])))))) (rest := gR c2 sa S.toNat q ++ (gB c1 q S.toNat 4 (fS lo hi su db))) (perm_of_count (fun cnt h1_ h0_ => by simp only [wU, wS, wGS, h1_, h0_] <;> omega)) ?_
      refine j_iload_n (pc := 180) C dX1_letOut_180 1 rfl ?_
      refine J.sub (ws' := wS c1 c2 o u1_ u (sk r 0) z dy li (if li < Dm 0 then so else so + 1) (if li < Dm 0 then sp + 1 else sp) (L - 1) (skF K 0) (skF Dm 0) (zc (pH hi) 0 S) (cmp (pH hi) (cutL lo) S) (cmp (pH hi) (low1 hi) S) (cmp (pH hi) (cutS lo su (Dm 0)) S) (cmp (pH hi) db S)) (rest := []) (perm_of_count (fun cnt h1_ h0_ => by simp only [wU, wS, wGS, h1_, h0_] <;> omega)) ?_
      exact j_iretE (pc := 181) C hr dX1_letOut_181 ⟨u1_, u, z⟩ trivial (by rfl) (by rfl) (by omega) (by omega)
  · intro kj_40
    try dsimp only at kj_40 ⊢
    refine j_iload_n (pc := 9) C dX1_letOut_9 1 rfl ?_
    refine j_aload_n (pc := 10) C dX1_letOut_10 0 rfl ?_
    refine j_get (pc := 11) C (ref := "GrainSiloLaw$Sim") (T := TX1) (N := 6) hin _ (At.l (k := 0) rfl) rfl 1 (by decide) (C.w 2 rfl) rfl rfl dX1_letOut_11 ?_
    refine j_icmp_le (pc := 14) C 30 dX1_letOut_14 (by decide) ⟨by omega, by omega⟩ ⟨by omega, by omega⟩ (fun c_14 => ?_) (fun c_14 => ?_)
    · skip
      refine j_aload_n (pc := 30) C dX1_letOut_30 0 rfl ?_
      refine j_dup (pc := 31) C dX1_letOut_31 rfl ?_
      refine j_get (pc := 32) C (ref := "GrainSiloLaw$Sim") (T := TX1) (N := 6) hin _ (At.l (k := 0) rfl) rfl 2 (by decide) (C.w 4 rfl) rfl rfl dX1_letOut_32 ?_
      refine j_iconst (pc := 35) C dX1_letOut_35 ?_
      refine j_iadd (pc := 36) C dX1_letOut_36 ?_
      refine j_put (pc := 37) C (ref := "GrainSiloLaw$Sim") (T := TX1) (N := 6) (ws' := gO o la sa dy li (so + 1) sp ++ (gR c2 la L.toNat r ++ (gR c2 sa S.toNat q ++ (gB c1 r L.toNat 2 (fL K Dm) ++ (gB c1 q S.toNat 4 (fS lo hi su db) ++ ([])))))) hin tyX1 tyX1_ok nmX1 _ (At.l (k := 0) rfl) rfl 2 (by decide) (C.w 4 rfl) rfl rfl (by decide +kernel) (Nat.le_of_ble_eq_true rfl) (Pu.l (k := 0) (hk := rfl) rfl) dX1_letOut_37 ?_
      exact J.widen (by omega) (by omega) (J.cast (kj_40 () trivial) (by rw [if_neg (by omega), if_neg (by omega)]) (by rfl) (by rfl))
    · skip
      refine j_aload_n (pc := 17) C dX1_letOut_17 0 rfl ?_
      refine j_dup (pc := 18) C dX1_letOut_18 rfl ?_
      refine j_get (pc := 19) C (ref := "GrainSiloLaw$Sim") (T := TX1) (N := 6) hin _ (At.l (k := 0) rfl) rfl 3 (by decide) (C.w 3 rfl) rfl rfl dX1_letOut_19 ?_
      refine j_iconst (pc := 22) C dX1_letOut_22 ?_
      refine j_iadd (pc := 23) C dX1_letOut_23 ?_
      refine j_put (pc := 24) C (ref := "GrainSiloLaw$Sim") (T := TX1) (N := 6) (ws' := gO o la sa dy li so (sp + 1) ++ (gR c2 la L.toNat r ++ (gR c2 sa S.toNat q ++ (gB c1 r L.toNat 2 (fL K Dm) ++ (gB c1 q S.toNat 4 (fS lo hi su db) ++ ([])))))) hin tyX1 tyX1_ok nmX1 _ (At.l (k := 0) rfl) rfl 3 (by decide) (C.w 3 rfl) rfl rfl (by decide +kernel) (Nat.le_of_ble_eq_true rfl) (Pu.l (k := 0) (hk := rfl) rfl) dX1_letOut_24 ?_
      refine j_goto (pc := 27) C 40 dX1_letOut_27 (by decide) ?_
      exact J.widen (by omega) (by omega) (J.cast (kj_40 () trivial) (by rw [if_pos c_14, if_pos c_14]) (by rfl) (by rfl))
set_option maxHeartbeats 4000000 in
set_option maxRecDepth 100000 in
theorem kX1_turnOver (l : Launch) (D : va_G) (c1 c2 c3 : ClassId) (o la sa : Nat) (r q : Nat → Nat) (dy li so sp L : Int) (K Dm : Int → Int) (S : Int) (lo hi su db : Int → Int) (hok : okS Dm L lo hi su db S) (hl1 : 2 ≤ L) : eI l yX1_turnOver wsX1_turnOver ({ frames := 2, cells := 51, slots := 625, locals := 46 }) D (tyS c1 c2 c3) [.ref o] (wS c1 c2 o la sa r q dy li so sp L K Dm S lo hi su db) E1 (fun (u9 : Nat × Nat × (Nat → Nat)) => True) (fun (u9 : Nat × Nat × (Nat → Nat)) => wS c1 c2 o u9.1 u9.2.1 (fun j => if j < (L - 1).toNat then sk r 0 j else r 0) u9.2.2 dy li so sp L (upZ (skF K 0) (L - 1) (K 0)) (upZ (skF Dm 0) (L - 1) (Dm 0)) (zc (pL lo) 0 S) (cmp (pL lo) (low1 lo) S) (cmp (pL lo) (low1 hi) S) (cmp (pL lo) su S) (cmp (pL lo) db S)) (fun (u9 : Nat × Nat × (Nat → Nat)) => zI (S - zc (pL lo) 0 S)) 51 625 := by
  refine eI.of (cc := cX1_turnOver) (maxL := 7) (ret := .int) (by decide) rfl (lv := [(0, .ref o)]) [0] rfl (Nat.le_of_ble_eq_true rfl) ?_
  intro p e s m args below meth c A C hr hE hAw
  have ho : va_AOA .int s := hE
  have C : GC p s m args meth c cX1_turnOver 7 RX1 wsX1_turnOver D (tyS c1 c2 c3) A := C
  have hin : ∀ w ∈ wsX10, w ∈ wsX1_turnOver := fun _ h => List.mem_cons_of_mem _ (List.mem_append_right _ h)
  obtain ⟨⟨hL0, hL⟩, ⟨hS0, hS⟩, hf, hs⟩ := id hok
  refine J.cast (ws' := gO o la sa dy li so sp ++ (gR c2 la L.toNat r ++ (gR c2 sa S.toNat q ++ (gB c1 r L.toNat 2 (fL K Dm) ++ (gB c1 q S.toNat 4 (fS lo hi su db) ++ ([])))))) (lv' := [(0, .ref o)]) (st' := []) ?_ (by rfl) rfl rfl
  refine j_aload_n (pc := 0) C dX1_turnOver_0 0 rfl ?_
  refine j_get (pc := 1) C (ref := "GrainSiloLaw$Sim") (T := TX1) (N := 6) hin _ (At.l (k := 0) rfl) rfl 4 (by decide) (C.w 1 rfl) rfl rfl dX1_turnOver_1 ?_
  refine j_iconst (pc := 4) C dX1_turnOver_4 ?_
  refine j_aald (pc := 5) C _ 1 (g := r) (At.r (At.l (k := 0) rfl)) rfl (by omega) (by omega) (by omega) dX1_turnOver_5 ?_
  refine j_astore_n (pc := 6) C (lv' := [(0, .ref o), (1, .ref (r (0 : Int).toNat))]) dX1_turnOver_6 (by decide) [1, 0] rfl ?_
  refine j_aload_n (pc := 7) C dX1_turnOver_7 0 rfl ?_
  refine j_aload_n (pc := 8) C dX1_turnOver_8 0 rfl ?_
  refine j_get (pc := 9) C (ref := "GrainSiloLaw$Sim") (T := TX1) (N := 6) hin _ (At.l (k := 0) rfl) rfl 4 (by decide) (C.w 1 rfl) rfl rfl dX1_turnOver_9 ?_
  refine j_iconst (pc := 12) C dX1_turnOver_12 ?_
  refine J.cast (ws' := (gO o la sa dy li so sp ++ (gR c2 la L.toNat r ++ (gR c2 sa S.toNat q ++ (gB c1 r L.toNat 2 (fL K Dm) ++ (gB c1 q S.toNat 4 (fS lo hi su db) ++ ([])))))) ++ []) ?_ (List.append_nil _).symm rfl rfl
  refine j_callSER (pc := 13) C E1.be (E1.he ho) (As := [.ref la, .int (zI 0)]) (rest := [.ref o]) (w0 := gO o la sa dy li so sp ++ (gR c2 la L.toNat r ++ (gR c2 sa S.toNat q ++ (gB c1 r L.toNat 2 (fL K Dm) ++ (gB c1 q S.toNat 4 (fS lo hi su db) ++ ([])))))) (wr := []) (kX1_without l D c1 c2 c3 (gO o la sa dy li so sp ++ (gR c2 la L.toNat r ++ (gR c2 sa S.toNat q ++ (gB c1 r L.toNat 2 (fL K Dm) ++ (gB c1 q S.toNat 4 (fS lo hi su db) ++ ([])))))) la L.toNat r 0 (by omega) (by omega) (by omega) ⟨_, (At.r (At.l (k := 0) rfl))⟩ (fun j hj => ⟨_, _, (At.r (At.r (At.r (At.l (gB_atN hj)))))⟩)) (va_cwS 2 C.2.2.2.2.1 gX1_turnOver_X1_without rfl rfl rfl (by decide +kernel) ⟨Nat.le_of_ble_eq_true rfl, Nat.le_of_ble_eq_true rfl⟩) dX1_turnOver_13 rfl rfl (Nat.le_of_ble_eq_true rfl) ⟨(by show _ ≤ 51; omega), (by show _ ≤ 625; omega)⟩ (fun u1_ _ => ?_)
  refine J.sub (ws' := gR c2 u1_ (L.toNat - 1) (sk r (0 : Int).toNat) ++ (gO o la sa dy li so sp ++ (gR c2 la L.toNat r ++ (gR c2 sa S.toNat q ++ (gB c1 r L.toNat 2 (fL K Dm) ++ (gB c1 q S.toNat 4 (fS lo hi su db) ++ ([]))))))) (rest := []) (perm_of_count (fun cnt h1_ h0_ => by simp only [wU, wS, wGS, h1_, h0_] <;> omega)) ?_
  refine j_aload_n (pc := 16) C dX1_turnOver_16 1 rfl ?_
  refine J.cast (ws' := (gR c2 u1_ (L.toNat - 1) (sk r (0 : Int).toNat) ++ (gO o la sa dy li so sp ++ (gR c2 la L.toNat r ++ (gR c2 sa S.toNat q ++ (gB c1 r L.toNat 2 (fL K Dm) ++ (gB c1 q S.toNat 4 (fS lo hi su db) ++ ([]))))))) ++ []) ?_ (List.append_nil _).symm rfl rfl
  refine j_callSER (pc := 17) C E1.be (E1.he ho) (As := [.ref u1_, .ref (r (0 : Int).toNat)]) (rest := [.ref o]) (w0 := gR c2 u1_ (L.toNat - 1) (sk r (0 : Int).toNat) ++ (gO o la sa dy li so sp ++ (gR c2 la L.toNat r ++ (gR c2 sa S.toNat q ++ (gB c1 r L.toNat 2 (fL K Dm) ++ (gB c1 q S.toNat 4 (fS lo hi su db) ++ ([]))))))) (wr := []) (kX1_with l D c1 c2 c3 (gR c2 u1_ (L.toNat - 1) (sk r (0 : Int).toNat) ++ (gO o la sa dy li so sp ++ (gR c2 la L.toNat r ++ (gR c2 sa S.toNat q ++ (gB c1 r L.toNat 2 (fL K Dm) ++ (gB c1 q S.toNat 4 (fS lo hi su db) ++ ([]))))))) u1_ (r (0 : Int).toNat) (L.toNat - 1) (sk r (0 : Int).toNat) (by omega) ⟨_, (At.l (k := 0) rfl)⟩ (fun j hj => by have e9 : sk r ((0 : Int)).toNat j = r (j + 1) := if_neg (Nat.not_lt_zero _); rw [e9]; exact ⟨_, _, (At.r (At.r (At.r (At.r (At.l (gB_atN (i := j + 1) (by omega)))))))⟩) ⟨_, _, (At.r (At.r (At.r (At.r (At.l (gB_at (by omega) (by omega)))))))⟩) (va_cwS 2 C.2.2.2.2.1 gX1_turnOver_X1_with rfl rfl rfl (by decide +kernel) ⟨Nat.le_of_ble_eq_true rfl, Nat.le_of_ble_eq_true rfl⟩) dX1_turnOver_17 rfl rfl (Nat.le_of_ble_eq_true rfl) ⟨(by show _ ≤ 51; omega), (by show _ ≤ 625; omega)⟩ (fun u2_ _ => ?_)
  refine J.sub (ws' := gR c2 u2_ ((L.toNat - 1) + 1) (fun j => if j < L.toNat - 1 then (sk r (0 : Int).toNat) j else (r (0 : Int).toNat)) ++ (gR c2 u1_ (L.toNat - 1) (sk r (0 : Int).toNat) ++ (gO o la sa dy li so sp ++ (gR c2 la L.toNat r ++ (gR c2 sa S.toNat q ++ (gB c1 r L.toNat 2 (fL K Dm) ++ (gB c1 q S.toNat 4 (fS lo hi su db) ++ ([])))))))) (rest := []) (perm_of_count (fun cnt h1_ h0_ => by simp only [wU, wS, wGS, h1_, h0_] <;> omega)) ?_
  refine j_putR (pc := 20) C (ref := "GrainSiloLaw$Sim") (T := TX1) (N := 6) (ws' := gR c2 u2_ ((L.toNat - 1) + 1) (fun j => if j < L.toNat - 1 then (sk r (0 : Int).toNat) j else (r (0 : Int).toNat)) ++ (gR c2 u1_ (L.toNat - 1) (sk r (0 : Int).toNat) ++ (gO o u2_ sa dy li so sp ++ (gR c2 la L.toNat r ++ (gR c2 sa S.toNat q ++ (gB c1 r L.toNat 2 (fL K Dm) ++ (gB c1 q S.toNat 4 (fS lo hi su db) ++ ([])))))))) hin tyX1 tyX1_ok nmX1 _ (At.r (At.r (At.l (k := 0) rfl))) rfl 4 (by decide) (C.w 1 rfl) rfl rfl (by decide +kernel) (Nat.le_of_ble_eq_true rfl) (Pu.r (Pu.r (Pu.l (k := 0) (hk := rfl) rfl))) dX1_turnOver_20 ?_
  refine J.sub (ws' := gR c2 u2_ ((L.toNat - 1) + 1) (fun j => if j < L.toNat - 1 then (sk r (0 : Int).toNat) j else (r (0 : Int).toNat)) ++ (gO o u2_ sa dy li so sp ++ (gR c2 sa S.toNat q ++ (gB c1 r L.toNat 2 (fL K Dm) ++ (gB c1 q S.toNat 4 (fS lo hi su db) ++ ([])))))) (rest := gR c2 u1_ (L.toNat - 1) (sk r (0 : Int).toNat) ++ (gR c2 la L.toNat r)) (perm_of_count (fun cnt h1_ h0_ => by simp only [wU, wS, wGS, h1_, h0_] <;> omega)) ?_
  refine J.perm (ws' := gB c1 r L.toNat 2 (fL K Dm) ++ (gR c2 u2_ ((L.toNat - 1) + 1) (fun j => if j < L.toNat - 1 then (sk r (0 : Int).toNat) j else (r (0 : Int).toNat)) ++ (gO o u2_ sa dy li so sp ++ (gR c2 sa S.toNat q ++ (gB c1 q S.toNat 4 (fS lo hi su db) ++ ([])))))) (perm_of_count (fun cnt h1_ h0_ => by simp only [wU, wS, wGS, h1_, h0_] <;> omega)) ?_
  refine J.turnL (by omega) ?_
  refine J.cast (ws' := gB c1 (fun j => if j < (L - 1).toNat then sk r 0 j else r 0) L.toNat 2 (fL (upZ (skF K 0) (L - 1) (K 0)) (upZ (skF Dm 0) (L - 1) (Dm 0))) ++ (gR c2 u2_ L.toNat (fun j => if j < (L - 1).toNat then sk r 0 j else r 0) ++ (gO o u2_ sa dy li so sp ++ (gR c2 sa S.toNat q ++ (gB c1 q S.toNat 4 (fS lo hi su db) ++ ([])))))) ?_ (by rw [show (L - 1).toNat = L.toNat - 1 by omega, show L.toNat - 1 + 1 = L.toNat by omega]; rfl) rfl rfl
  refine j_iconst (pc := 23) C dX1_turnOver_23 ?_
  refine j_newR (pc := 24) C ho 0 1 rfl rfl (C.w 2 rfl) (n := 0) (by omega) (by omega) (by show _ ≤ 51; omega) (by show _ ≤ 625; omega) dX1_turnOver_24 (fun q3_ => ?_)
  refine J.perm (ws' := gN c2 q3_ 0 (fun _ => none) ++ (gB c1 (fun j => if j < (L - 1).toNat then sk r 0 j else r 0) L.toNat 2 (fL (upZ (skF K 0) (L - 1) (K 0)) (upZ (skF Dm 0) (L - 1) (Dm 0))) ++ (gR c2 u2_ L.toNat (fun j => if j < (L - 1).toNat then sk r 0 j else r 0) ++ (gO o u2_ sa dy li so sp ++ (gR c2 sa S.toNat q ++ (gB c1 q S.toNat 4 (fS lo hi su db) ++ ([]))))))) (List.Perm.trans (List.Perm.of_eq (show _ = (gB c1 (fun j => if j < (L - 1).toNat then sk r 0 j else r 0) L.toNat 2 (fL (upZ (skF K 0) (L - 1) (K 0)) (upZ (skF Dm 0) (L - 1) (Dm 0))) ++ (gR c2 u2_ L.toNat (fun j => if j < (L - 1).toNat then sk r 0 j else r 0) ++ (gO o u2_ sa dy li so sp ++ (gR c2 sa S.toNat q ++ (gB c1 q S.toNat 4 (fS lo hi su db) ++ ([])))))) ++ (gN c2 q3_ 0 (fun _ => none)) from rfl)) (perm_of_count (fun cnt h1_ h0_ => by simp only [wU, wS, wGS, h1_, h0_] <;> omega))) ?_
  refine J.cell (ws' := gR c2 q3_ 0 (fun _ => 0) ++ (gB c1 (fun j => if j < (L - 1).toNat then sk r 0 j else r 0) L.toNat 2 (fL (upZ (skF K 0) (L - 1) (K 0)) (upZ (skF Dm 0) (L - 1) (Dm 0))) ++ (gR c2 u2_ L.toNat (fun j => if j < (L - 1).toNat then sk r 0 j else r 0) ++ (gO o u2_ sa dy li so sp ++ (gR c2 sa S.toNat q ++ (gB c1 q S.toNat 4 (fS lo hi su db) ++ ([]))))))) _ (At.l (k := 0) rfl) (Pu.l (k := 0) (hk := rfl) rfl) (gN0 c2 _) ?_
  refine j_astore_n (pc := 27) C (lv' := [(0, .ref o), (1, .ref (r (0 : Int).toNat)), (2, .ref q3_)]) dX1_turnOver_27 (by decide) [1, 2, 0] rfl ?_
  refine j_aload_n (pc := 28) C dX1_turnOver_28 0 rfl ?_
  refine j_get (pc := 29) C (ref := "GrainSiloLaw$Sim") (T := TX1) (N := 6) hin _ (At.r (At.r (At.r (At.l (k := 0) rfl)))) rfl 5 (by decide) (C.w 3 rfl) rfl rfl dX1_turnOver_29 ?_
  refine j_astore_n (pc := 32) C (lv' := [(0, .ref o), (1, .ref (r (0 : Int).toNat)), (2, .ref q3_), (3, .ref sa)]) dX1_turnOver_32 (by decide) [1, 2, 3, 0] rfl ?_
  refine j_aload_n (pc := 33) C dX1_turnOver_33 3 rfl ?_
  refine j_alen (pc := 34) C _ 1 (At.r (At.r (At.r (At.r (At.l (k := 0) rfl))))) rfl (z := S) (alen_eq (by omega) (by omega)) dX1_turnOver_34 ?_
  refine j_istore (pc := 35) C (lv' := [(0, .ref o), (1, .ref (r (0 : Int).toNat)), (2, .ref q3_), (3, .ref sa), (4, .int (zI S))]) dX1_turnOver_35 (by decide) [1, 2, 3, 4, 0] rfl ?_
  refine j_iconst (pc := 37) C dX1_turnOver_37 ?_
  refine j_istore (pc := 38) C (lv' := [(0, .ref o), (1, .ref (r (0 : Int).toNat)), (2, .ref q3_), (3, .ref sa), (4, .int (zI S)), (5, .int (zI 0))]) dX1_turnOver_38 (by decide) [1, 2, 3, 4, 5, 0] rfl ?_
  refine J.cast (ws' := gR c2 q3_ 0 (fun _ => 0) ++ (gB c1 (fun _ => 0) 0 4 (fS (cmp (pL lo) (low1 lo) 0) (cmp (pL lo) (low1 hi) 0) (cmp (pL lo) su 0) (cmp (pL lo) db 0)) ++ (gB c1 (fun j => if j < (L - 1).toNat then sk r 0 j else r 0) L.toNat 2 (fL (upZ (skF K 0) (L - 1) (K 0)) (upZ (skF Dm 0) (L - 1) (Dm 0))) ++ (gR c2 u2_ L.toNat (fun j => if j < (L - 1).toNat then sk r 0 j else r 0) ++ (gO o u2_ sa dy li so sp ++ (gR c2 sa S.toNat q ++ (gB c1 q S.toNat 4 (fS lo hi su db) ++ ([])))))))) ?_ (by rfl) rfl rfl
  refine J.pick (lv' := [(0, .ref o), (2, .ref q3_), (3, .ref sa), (4, .int (zI S)), (5, .int (zI 0))]) [0, 2, 3, 4, 5] rfl ?_
  refine J.cast (ws' := gR c2 q3_ ((zc (pL lo) 0 ((0 : Int))).toNat) ((fun _ => 0)) ++ (gB c1 ((fun _ => 0)) ((zc (pL lo) 0 ((0 : Int))).toNat) 4 (fS (cmp (pL lo) (low1 lo) ((0 : Int))) (cmp (pL lo) (low1 hi) ((0 : Int))) (cmp (pL lo) su ((0 : Int))) (cmp (pL lo) db ((0 : Int)))) ++ (gB c1 (fun j => if j < (L - 1).toNat then sk r 0 j else r 0) L.toNat 2 (fL (upZ (skF K 0) (L - 1) (K 0)) (upZ (skF Dm 0) (L - 1) (Dm 0))) ++ (gR c2 u2_ L.toNat (fun j => if j < (L - 1).toNat then sk r 0 j else r 0) ++ (gO o u2_ sa dy li so sp ++ (gR c2 sa S.toNat q ++ (gB c1 q S.toNat 4 (fS lo hi su db) ++ ([])))))))) (lv' := [(0, .ref o), (2, .ref q3_), (3, .ref sa), (4, .int (zI S)), (5, .int (zI (((0 : Int)))))]) ?_ (by rw [zc_0]; rfl) (by rfl) rfl
  refine J.widen (k := 19 + 2 * ((0 : Int)).toNat) (n := 289 + 21 * ((0 : Int)).toNat) (by omega) (by omega) ?_
  refine j_loop (X := Nat × (Nat → Nat)) (fun (i : Int) x9 => gR c2 x9.1 ((zc (pL lo) 0 i).toNat) x9.2 ++ (gB c1 x9.2 ((zc (pL lo) 0 i).toNat) 4 (fS (cmp (pL lo) (low1 lo) i) (cmp (pL lo) (low1 hi) i) (cmp (pL lo) su i) (cmp (pL lo) db i)) ++ (gB c1 (fun j => if j < (L - 1).toNat then sk r 0 j else r 0) L.toNat 2 (fL (upZ (skF K 0) (L - 1) (K 0)) (upZ (skF Dm 0) (L - 1) (Dm 0))) ++ (gR c2 u2_ L.toNat (fun j => if j < (L - 1).toNat then sk r 0 j else r 0) ++ (gO o u2_ sa dy li so sp ++ (gR c2 sa S.toNat q ++ (gB c1 q S.toNat 4 (fS lo hi su db) ++ ([])))))))) (fun (i : Int) x9 => [(0, .ref o), (2, .ref x9.1), (3, .ref sa), (4, .int (zI S)), (5, .int (zI i))]) (fun (i : Int) x9 => True) (fun (i : Int) => 19 + 2 * i.toNat) (fun (i : Int) => 289 + 21 * i.toNat) (0 : Int) S (by omega) ?_ ?_ ⟨q3_, fun _ => 0⟩ trivial
  · intro i x9 h0_40 h1_40 hI_40 hk_40
    obtain ⟨u, z⟩ := x9
    try dsimp only at hI_40 hk_40 ⊢
    have hz9 := zc_le (pL lo) 0 i (by omega)
    refine j_iload (pc := 40) C dX1_turnOver_40 4 rfl ?_
    refine j_iload (pc := 42) C dX1_turnOver_42 3 rfl ?_
    refine j_icmp_ge (pc := 44) C 106 dX1_turnOver_44 (by decide) ⟨by omega, by omega⟩ ⟨by omega, by omega⟩ (fun c_44 => absurd c_44 (by omega)) (fun c_44 => ?_)
    refine j_aload_n (pc := 47) C dX1_turnOver_47 2 rfl ?_
    refine j_iload (pc := 48) C dX1_turnOver_48 4 rfl ?_
    refine j_aald (pc := 50) C _ 1 (g := q) (At.r (At.r (At.r (At.r (At.r (At.l (k := 0) rfl)))))) rfl (by omega) (by omega) (by omega) dX1_turnOver_50 ?_
    refine j_astore (pc := 51) C (lv' := [(0, .ref o), (2, .ref u), (3, .ref sa), (4, .int (zI S)), (5, .int (zI i)), (6, .ref (q i.toNat))]) dX1_turnOver_51 (by decide) [1, 2, 3, 4, 5, 0] rfl ?_
    have hs9 := hs i h0_40 h1_40
    refine j_aload (pc := 53) C dX1_turnOver_53 5 rfl ?_
    refine j_iconst (pc := 55) C dX1_turnOver_55 ?_
    refine j_iald (pc := 56) C _ 0 (At.r (At.r (At.r (At.r (At.r (At.r (At.l (gB_at (by omega) (by omega))))))))) rfl (by omega) (by omega) (by omega) dX1_turnOver_56 ?_
    refine J.cast (ws' := gR c2 u ((zc (pL lo) 0 i).toNat) z ++ (gB c1 z ((zc (pL lo) 0 i).toNat) 4 (fS (cmp (pL lo) (low1 lo) i) (cmp (pL lo) (low1 hi) i) (cmp (pL lo) su i) (cmp (pL lo) db i)) ++ (gB c1 (fun j => if j < (L - 1).toNat then sk r 0 j else r 0) L.toNat 2 (fL (upZ (skF K 0) (L - 1) (K 0)) (upZ (skF Dm 0) (L - 1) (Dm 0))) ++ (gR c2 u2_ L.toNat (fun j => if j < (L - 1).toNat then sk r 0 j else r 0) ++ (gO o u2_ sa dy li so sp ++ (gR c2 sa S.toNat q ++ (gB c1 q S.toNat 4 (fS lo hi su db) ++ ([])))))))) (lv' := [(0, .ref o), (2, .ref u), (3, .ref sa), (4, .int (zI S)), (5, .int (zI i)), (6, .ref (q i.toNat))]) (st' := [.int (zI (lo i))]) ?_ rfl rfl rfl
    refine j_if_le (pc := 57) C 100 dX1_turnOver_57 (by decide) ⟨by omega, by omega⟩ (fun c_57 => ?_) (fun c_57 => ?_)
    · skip
      have hp9 : pL lo i = false := by unfold pL; simp; omega
      refine j_iinc (pc := 100) C (x := i) (lv' := [(0, .ref o), (2, .ref u), (3, .ref sa), (4, .int (zI S)), (5, .int (zI (i + 1))), (6, .ref (q i.toNat))]) dX1_turnOver_100 4 rfl (by decide) [1, 2, 3, 4, 0, 5] rfl ?_
      refine j_goto (pc := 103) C 40 dX1_turnOver_103 (by decide) ?_
      refine J.pick (lv' := [(0, .ref o), (2, .ref u), (3, .ref sa), (4, .int (zI S)), (5, .int (zI (i + 1)))]) [0, 1, 2, 3, 4] rfl ?_
      exact J.widen (by omega) (by omega) (J.cast (hk_40 ⟨u, z⟩ trivial) (by rw [zc_f (pL lo) 0 i (by omega) hp9, cmp_f (pL lo) _ i (by omega) hp9, cmp_f (pL lo) _ i (by omega) hp9, cmp_f (pL lo) _ i (by omega) hp9, cmp_f (pL lo) _ i (by omega) hp9] <;> rfl) (by rfl) rfl)
    · skip
      have hp9 : pL lo i = true := by unfold pL; simp; omega
      refine j_aload_n (pc := 60) C dX1_turnOver_60 1 rfl ?_
      refine j_iconst (pc := 61) C dX1_turnOver_61 ?_
      refine j_newI (pc := 62) C (C.w 4 rfl) 0 rfl (n := 4) (by omega) (by omega) (by show _ ≤ 51; omega) (by show _ ≤ 625; omega) dX1_turnOver_62 (fun q4_ => ?_)
      refine J.perm (ws' := gA c1 q4_ 4 (fun _ => 0) ++ (gR c2 u ((zc (pL lo) 0 i).toNat) z ++ (gB c1 z ((zc (pL lo) 0 i).toNat) 4 (fS (cmp (pL lo) (low1 lo) i) (cmp (pL lo) (low1 hi) i) (cmp (pL lo) su i) (cmp (pL lo) db i)) ++ (gB c1 (fun j => if j < (L - 1).toNat then sk r 0 j else r 0) L.toNat 2 (fL (upZ (skF K 0) (L - 1) (K 0)) (upZ (skF Dm 0) (L - 1) (Dm 0))) ++ (gR c2 u2_ L.toNat (fun j => if j < (L - 1).toNat then sk r 0 j else r 0) ++ (gO o u2_ sa dy li so sp ++ (gR c2 sa S.toNat q ++ (gB c1 q S.toNat 4 (fS lo hi su db) ++ ([]))))))))) (List.Perm.trans (List.Perm.of_eq (show _ = (gR c2 u ((zc (pL lo) 0 i).toNat) z ++ (gB c1 z ((zc (pL lo) 0 i).toNat) 4 (fS (cmp (pL lo) (low1 lo) i) (cmp (pL lo) (low1 hi) i) (cmp (pL lo) su i) (cmp (pL lo) db i)) ++ (gB c1 (fun j => if j < (L - 1).toNat then sk r 0 j else r 0) L.toNat 2 (fL (upZ (skF K 0) (L - 1) (K 0)) (upZ (skF Dm 0) (L - 1) (Dm 0))) ++ (gR c2 u2_ L.toNat (fun j => if j < (L - 1).toNat then sk r 0 j else r 0) ++ (gO o u2_ sa dy li so sp ++ (gR c2 sa S.toNat q ++ (gB c1 q S.toNat 4 (fS lo hi su db) ++ ([])))))))) ++ (gA c1 q4_ 4 (fun _ => 0)) from rfl)) (perm_of_count (fun cnt h1_ h0_ => by simp only [wU, wS, wGS, h1_, h0_] <;> omega))) ?_
      refine j_dup (pc := 64) C dX1_turnOver_64 rfl ?_
      refine j_iconst (pc := 65) C dX1_turnOver_65 ?_
      refine j_aload (pc := 66) C dX1_turnOver_66 5 rfl ?_
      refine j_iconst (pc := 68) C dX1_turnOver_68 ?_
      refine j_iald (pc := 69) C _ 0 (At.r (At.r (At.r (At.r (At.r (At.r (At.r (At.l (gB_at (by omega) (by omega)))))))))) rfl (by omega) (by omega) (by omega) dX1_turnOver_69 ?_
      refine J.cast (ws' := gA c1 q4_ 4 (fun _ => 0) ++ (gR c2 u ((zc (pL lo) 0 i).toNat) z ++ (gB c1 z ((zc (pL lo) 0 i).toNat) 4 (fS (cmp (pL lo) (low1 lo) i) (cmp (pL lo) (low1 hi) i) (cmp (pL lo) su i) (cmp (pL lo) db i)) ++ (gB c1 (fun j => if j < (L - 1).toNat then sk r 0 j else r 0) L.toNat 2 (fL (upZ (skF K 0) (L - 1) (K 0)) (upZ (skF Dm 0) (L - 1) (Dm 0))) ++ (gR c2 u2_ L.toNat (fun j => if j < (L - 1).toNat then sk r 0 j else r 0) ++ (gO o u2_ sa dy li so sp ++ (gR c2 sa S.toNat q ++ (gB c1 q S.toNat 4 (fS lo hi su db) ++ ([]))))))))) (lv' := [(0, .ref o), (2, .ref u), (3, .ref sa), (4, .int (zI S)), (5, .int (zI i)), (6, .ref (q i.toNat))]) (st' := [.int (zI (lo i)), .int (zI 0), .ref q4_, .ref q4_, .ref u]) ?_ rfl rfl rfl
      refine j_iconst (pc := 70) C dX1_turnOver_70 ?_
      refine j_isub (pc := 71) C dX1_turnOver_71 ?_
      refine j_iast (pc := 72) C _ 0 (At.l (k := 0) rfl) rfl (by omega) (by omega) (by omega) (ws' := gA c1 q4_ 4 (upZ (fun _ => 0) 0 ((lo i) - 1)) ++ (gR c2 u ((zc (pL lo) 0 i).toNat) z ++ (gB c1 z ((zc (pL lo) 0 i).toNat) 4 (fS (cmp (pL lo) (low1 lo) i) (cmp (pL lo) (low1 hi) i) (cmp (pL lo) su i) (cmp (pL lo) db i)) ++ (gB c1 (fun j => if j < (L - 1).toNat then sk r 0 j else r 0) L.toNat 2 (fL (upZ (skF K 0) (L - 1) (K 0)) (upZ (skF Dm 0) (L - 1) (Dm 0))) ++ (gR c2 u2_ L.toNat (fun j => if j < (L - 1).toNat then sk r 0 j else r 0) ++ (gO o u2_ sa dy li so sp ++ (gR c2 sa S.toNat q ++ (gB c1 q S.toNat 4 (fS lo hi su db) ++ ([]))))))))) (Pu.l (k := 0) (hk := rfl) rfl) dX1_turnOver_72 ?_
      refine j_dup (pc := 73) C dX1_turnOver_73 rfl ?_
      refine j_iconst (pc := 74) C dX1_turnOver_74 ?_
      refine j_aload (pc := 75) C dX1_turnOver_75 5 rfl ?_
      refine j_iconst (pc := 77) C dX1_turnOver_77 ?_
      refine j_iald (pc := 78) C _ 0 (At.r (At.r (At.r (At.r (At.r (At.r (At.r (At.l (gB_at (by omega) (by omega)))))))))) rfl (by omega) (by omega) (by omega) dX1_turnOver_78 ?_
      refine J.cast (ws' := gA c1 q4_ 4 (upZ (fun _ => 0) 0 ((lo i) - 1)) ++ (gR c2 u ((zc (pL lo) 0 i).toNat) z ++ (gB c1 z ((zc (pL lo) 0 i).toNat) 4 (fS (cmp (pL lo) (low1 lo) i) (cmp (pL lo) (low1 hi) i) (cmp (pL lo) su i) (cmp (pL lo) db i)) ++ (gB c1 (fun j => if j < (L - 1).toNat then sk r 0 j else r 0) L.toNat 2 (fL (upZ (skF K 0) (L - 1) (K 0)) (upZ (skF Dm 0) (L - 1) (Dm 0))) ++ (gR c2 u2_ L.toNat (fun j => if j < (L - 1).toNat then sk r 0 j else r 0) ++ (gO o u2_ sa dy li so sp ++ (gR c2 sa S.toNat q ++ (gB c1 q S.toNat 4 (fS lo hi su db) ++ ([]))))))))) (lv' := [(0, .ref o), (2, .ref u), (3, .ref sa), (4, .int (zI S)), (5, .int (zI i)), (6, .ref (q i.toNat))]) (st' := [.int (zI (hi i)), .int (zI 1), .ref q4_, .ref q4_, .ref u]) ?_ rfl rfl rfl
      refine j_iconst (pc := 79) C dX1_turnOver_79 ?_
      refine j_isub (pc := 80) C dX1_turnOver_80 ?_
      refine j_iast (pc := 81) C _ 0 (At.l (k := 0) rfl) rfl (by omega) (by omega) (by omega) (ws' := gA c1 q4_ 4 (upZ (upZ (fun _ => 0) 0 ((lo i) - 1)) 1 ((hi i) - 1)) ++ (gR c2 u ((zc (pL lo) 0 i).toNat) z ++ (gB c1 z ((zc (pL lo) 0 i).toNat) 4 (fS (cmp (pL lo) (low1 lo) i) (cmp (pL lo) (low1 hi) i) (cmp (pL lo) su i) (cmp (pL lo) db i)) ++ (gB c1 (fun j => if j < (L - 1).toNat then sk r 0 j else r 0) L.toNat 2 (fL (upZ (skF K 0) (L - 1) (K 0)) (upZ (skF Dm 0) (L - 1) (Dm 0))) ++ (gR c2 u2_ L.toNat (fun j => if j < (L - 1).toNat then sk r 0 j else r 0) ++ (gO o u2_ sa dy li so sp ++ (gR c2 sa S.toNat q ++ (gB c1 q S.toNat 4 (fS lo hi su db) ++ ([]))))))))) (Pu.l (k := 0) (hk := rfl) rfl) dX1_turnOver_81 ?_
      refine j_dup (pc := 82) C dX1_turnOver_82 rfl ?_
      refine j_iconst (pc := 83) C dX1_turnOver_83 ?_
      refine j_aload (pc := 84) C dX1_turnOver_84 5 rfl ?_
      refine j_iconst (pc := 86) C dX1_turnOver_86 ?_
      refine j_iald (pc := 87) C _ 0 (At.r (At.r (At.r (At.r (At.r (At.r (At.r (At.l (gB_at (by omega) (by omega)))))))))) rfl (by omega) (by omega) (by omega) dX1_turnOver_87 ?_
      refine J.cast (ws' := gA c1 q4_ 4 (upZ (upZ (fun _ => 0) 0 ((lo i) - 1)) 1 ((hi i) - 1)) ++ (gR c2 u ((zc (pL lo) 0 i).toNat) z ++ (gB c1 z ((zc (pL lo) 0 i).toNat) 4 (fS (cmp (pL lo) (low1 lo) i) (cmp (pL lo) (low1 hi) i) (cmp (pL lo) su i) (cmp (pL lo) db i)) ++ (gB c1 (fun j => if j < (L - 1).toNat then sk r 0 j else r 0) L.toNat 2 (fL (upZ (skF K 0) (L - 1) (K 0)) (upZ (skF Dm 0) (L - 1) (Dm 0))) ++ (gR c2 u2_ L.toNat (fun j => if j < (L - 1).toNat then sk r 0 j else r 0) ++ (gO o u2_ sa dy li so sp ++ (gR c2 sa S.toNat q ++ (gB c1 q S.toNat 4 (fS lo hi su db) ++ ([]))))))))) (lv' := [(0, .ref o), (2, .ref u), (3, .ref sa), (4, .int (zI S)), (5, .int (zI i)), (6, .ref (q i.toNat))]) (st' := [.int (zI (su i)), .int (zI 2), .ref q4_, .ref q4_, .ref u]) ?_ rfl rfl rfl
      refine j_iast (pc := 88) C _ 0 (At.l (k := 0) rfl) rfl (by omega) (by omega) (by omega) (ws' := gA c1 q4_ 4 (upZ (upZ (upZ (fun _ => 0) 0 ((lo i) - 1)) 1 ((hi i) - 1)) 2 (su i)) ++ (gR c2 u ((zc (pL lo) 0 i).toNat) z ++ (gB c1 z ((zc (pL lo) 0 i).toNat) 4 (fS (cmp (pL lo) (low1 lo) i) (cmp (pL lo) (low1 hi) i) (cmp (pL lo) su i) (cmp (pL lo) db i)) ++ (gB c1 (fun j => if j < (L - 1).toNat then sk r 0 j else r 0) L.toNat 2 (fL (upZ (skF K 0) (L - 1) (K 0)) (upZ (skF Dm 0) (L - 1) (Dm 0))) ++ (gR c2 u2_ L.toNat (fun j => if j < (L - 1).toNat then sk r 0 j else r 0) ++ (gO o u2_ sa dy li so sp ++ (gR c2 sa S.toNat q ++ (gB c1 q S.toNat 4 (fS lo hi su db) ++ ([]))))))))) (Pu.l (k := 0) (hk := rfl) rfl) dX1_turnOver_88 ?_
      refine j_dup (pc := 89) C dX1_turnOver_89 rfl ?_
      refine j_iconst (pc := 90) C dX1_turnOver_90 ?_
      refine j_aload (pc := 91) C dX1_turnOver_91 5 rfl ?_
      refine j_iconst (pc := 93) C dX1_turnOver_93 ?_
      refine j_iald (pc := 94) C _ 0 (At.r (At.r (At.r (At.r (At.r (At.r (At.r (At.l (gB_at (by omega) (by omega)))))))))) rfl (by omega) (by omega) (by omega) dX1_turnOver_94 ?_
      refine J.cast (ws' := gA c1 q4_ 4 (upZ (upZ (upZ (fun _ => 0) 0 ((lo i) - 1)) 1 ((hi i) - 1)) 2 (su i)) ++ (gR c2 u ((zc (pL lo) 0 i).toNat) z ++ (gB c1 z ((zc (pL lo) 0 i).toNat) 4 (fS (cmp (pL lo) (low1 lo) i) (cmp (pL lo) (low1 hi) i) (cmp (pL lo) su i) (cmp (pL lo) db i)) ++ (gB c1 (fun j => if j < (L - 1).toNat then sk r 0 j else r 0) L.toNat 2 (fL (upZ (skF K 0) (L - 1) (K 0)) (upZ (skF Dm 0) (L - 1) (Dm 0))) ++ (gR c2 u2_ L.toNat (fun j => if j < (L - 1).toNat then sk r 0 j else r 0) ++ (gO o u2_ sa dy li so sp ++ (gR c2 sa S.toNat q ++ (gB c1 q S.toNat 4 (fS lo hi su db) ++ ([]))))))))) (lv' := [(0, .ref o), (2, .ref u), (3, .ref sa), (4, .int (zI S)), (5, .int (zI i)), (6, .ref (q i.toNat))]) (st' := [.int (zI (db i)), .int (zI 3), .ref q4_, .ref q4_, .ref u]) ?_ rfl rfl rfl
      refine j_iast (pc := 95) C _ 0 (At.l (k := 0) rfl) rfl (by omega) (by omega) (by omega) (ws' := gA c1 q4_ 4 (upZ (upZ (upZ (upZ (fun _ => 0) 0 ((lo i) - 1)) 1 ((hi i) - 1)) 2 (su i)) 3 (db i)) ++ (gR c2 u ((zc (pL lo) 0 i).toNat) z ++ (gB c1 z ((zc (pL lo) 0 i).toNat) 4 (fS (cmp (pL lo) (low1 lo) i) (cmp (pL lo) (low1 hi) i) (cmp (pL lo) su i) (cmp (pL lo) db i)) ++ (gB c1 (fun j => if j < (L - 1).toNat then sk r 0 j else r 0) L.toNat 2 (fL (upZ (skF K 0) (L - 1) (K 0)) (upZ (skF Dm 0) (L - 1) (Dm 0))) ++ (gR c2 u2_ L.toNat (fun j => if j < (L - 1).toNat then sk r 0 j else r 0) ++ (gO o u2_ sa dy li so sp ++ (gR c2 sa S.toNat q ++ (gB c1 q S.toNat 4 (fS lo hi su db) ++ ([]))))))))) (Pu.l (k := 0) (hk := rfl) rfl) dX1_turnOver_95 ?_
      refine J.cast (ws' := (gA c1 q4_ 4 (upZ (upZ (upZ (upZ (fun _ => 0) 0 ((lo i) - 1)) 1 ((hi i) - 1)) 2 (su i)) 3 (db i)) ++ (gR c2 u ((zc (pL lo) 0 i).toNat) z ++ (gB c1 z ((zc (pL lo) 0 i).toNat) 4 (fS (cmp (pL lo) (low1 lo) i) (cmp (pL lo) (low1 hi) i) (cmp (pL lo) su i) (cmp (pL lo) db i)) ++ (gB c1 (fun j => if j < (L - 1).toNat then sk r 0 j else r 0) L.toNat 2 (fL (upZ (skF K 0) (L - 1) (K 0)) (upZ (skF Dm 0) (L - 1) (Dm 0))) ++ (gR c2 u2_ L.toNat (fun j => if j < (L - 1).toNat then sk r 0 j else r 0) ++ (gO o u2_ sa dy li so sp ++ (gR c2 sa S.toNat q ++ (gB c1 q S.toNat 4 (fS lo hi su db) ++ ([]))))))))) ++ []) ?_ (List.append_nil _).symm rfl rfl
      refine j_callSER (pc := 96) C E1.be (E1.he ho) (As := [.ref u, .ref q4_]) (rest := []) (w0 := gA c1 q4_ 4 (upZ (upZ (upZ (upZ (fun _ => 0) 0 ((lo i) - 1)) 1 ((hi i) - 1)) 2 (su i)) 3 (db i)) ++ (gR c2 u ((zc (pL lo) 0 i).toNat) z ++ (gB c1 z ((zc (pL lo) 0 i).toNat) 4 (fS (cmp (pL lo) (low1 lo) i) (cmp (pL lo) (low1 hi) i) (cmp (pL lo) su i) (cmp (pL lo) db i)) ++ (gB c1 (fun j => if j < (L - 1).toNat then sk r 0 j else r 0) L.toNat 2 (fL (upZ (skF K 0) (L - 1) (K 0)) (upZ (skF Dm 0) (L - 1) (Dm 0))) ++ (gR c2 u2_ L.toNat (fun j => if j < (L - 1).toNat then sk r 0 j else r 0) ++ (gO o u2_ sa dy li so sp ++ (gR c2 sa S.toNat q ++ (gB c1 q S.toNat 4 (fS lo hi su db) ++ ([]))))))))) (wr := []) (kX1_with l D c1 c2 c3 (gA c1 q4_ 4 (upZ (upZ (upZ (upZ (fun _ => 0) 0 ((lo i) - 1)) 1 ((hi i) - 1)) 2 (su i)) 3 (db i)) ++ (gR c2 u ((zc (pL lo) 0 i).toNat) z ++ (gB c1 z ((zc (pL lo) 0 i).toNat) 4 (fS (cmp (pL lo) (low1 lo) i) (cmp (pL lo) (low1 hi) i) (cmp (pL lo) su i) (cmp (pL lo) db i)) ++ (gB c1 (fun j => if j < (L - 1).toNat then sk r 0 j else r 0) L.toNat 2 (fL (upZ (skF K 0) (L - 1) (K 0)) (upZ (skF Dm 0) (L - 1) (Dm 0))) ++ (gR c2 u2_ L.toNat (fun j => if j < (L - 1).toNat then sk r 0 j else r 0) ++ (gO o u2_ sa dy li so sp ++ (gR c2 sa S.toNat q ++ (gB c1 q S.toNat 4 (fS lo hi su db) ++ ([]))))))))) u q4_ ((zc (pL lo) 0 i).toNat) z (by omega) ⟨_, (At.r (At.l (k := 0) rfl))⟩ (fun j hj => ⟨_, _, (At.r (At.r (At.l (gB_atN hj))))⟩) ⟨_, _, (At.l (k := 0) rfl)⟩) (va_cwS 2 C.2.2.2.2.1 gX1_turnOver_X1_with rfl rfl rfl (by decide +kernel) ⟨Nat.le_of_ble_eq_true rfl, Nat.le_of_ble_eq_true rfl⟩) dX1_turnOver_96 rfl rfl (Nat.le_of_ble_eq_true rfl) ⟨(by show _ ≤ 51; omega), (by show _ ≤ 625; omega)⟩ (fun u5_ _ => ?_)
      refine J.sub (ws' := gR c2 u5_ (((zc (pL lo) 0 i).toNat) + 1) (fun j => if j < (zc (pL lo) 0 i).toNat then z j else q4_) ++ (gA c1 q4_ 4 (upZ (upZ (upZ (upZ (fun _ => 0) 0 ((lo i) - 1)) 1 ((hi i) - 1)) 2 (su i)) 3 (db i)) ++ (gR c2 u ((zc (pL lo) 0 i).toNat) z ++ (gB c1 z ((zc (pL lo) 0 i).toNat) 4 (fS (cmp (pL lo) (low1 lo) i) (cmp (pL lo) (low1 hi) i) (cmp (pL lo) su i) (cmp (pL lo) db i)) ++ (gB c1 (fun j => if j < (L - 1).toNat then sk r 0 j else r 0) L.toNat 2 (fL (upZ (skF K 0) (L - 1) (K 0)) (upZ (skF Dm 0) (L - 1) (Dm 0))) ++ (gR c2 u2_ L.toNat (fun j => if j < (L - 1).toNat then sk r 0 j else r 0) ++ (gO o u2_ sa dy li so sp ++ (gR c2 sa S.toNat q ++ (gB c1 q S.toNat 4 (fS lo hi su db) ++ ([])))))))))) (rest := []) (perm_of_count (fun cnt h1_ h0_ => by simp only [wU, wS, wGS, h1_, h0_] <;> omega)) ?_
      refine J.sub (ws' := gR c2 u5_ (((zc (pL lo) 0 i).toNat) + 1) (fun j => if j < (zc (pL lo) 0 i).toNat then z j else q4_) ++ (gA c1 q4_ 4 (upZ (upZ (upZ (upZ (fun _ => 0) 0 ((lo i) - 1)) 1 ((hi i) - 1)) 2 (su i)) 3 (db i)) ++ (gB c1 z ((zc (pL lo) 0 i).toNat) 4 (fS (cmp (pL lo) (low1 lo) i) (cmp (pL lo) (low1 hi) i) (cmp (pL lo) su i) (cmp (pL lo) db i)) ++ (gB c1 (fun j => if j < (L - 1).toNat then sk r 0 j else r 0) L.toNat 2 (fL (upZ (skF K 0) (L - 1) (K 0)) (upZ (skF Dm 0) (L - 1) (Dm 0))) ++ (gR c2 u2_ L.toNat (fun j => if j < (L - 1).toNat then sk r 0 j else r 0) ++ (gO o u2_ sa dy li so sp ++ (gR c2 sa S.toNat q ++ (gB c1 q S.toNat 4 (fS lo hi su db) ++ ([]))))))))) (rest := gR c2 u ((zc (pL lo) 0 i).toNat) z) (perm_of_count (fun cnt h1_ h0_ => by simp only [wU, wS, wGS, h1_, h0_] <;> omega)) ?_
      refine J.perm (ws' := (gB c1 z ((zc (pL lo) 0 i).toNat) 4 (fS (cmp (pL lo) (low1 lo) i) (cmp (pL lo) (low1 hi) i) (cmp (pL lo) su i) (cmp (pL lo) db i)) ++ gA c1 q4_ 4 (upZ (upZ (upZ (upZ (fun _ => 0) 0 ((lo i) - 1)) 1 ((hi i) - 1)) 2 (su i)) 3 (db i))) ++ (gR c2 u5_ (((zc (pL lo) 0 i).toNat) + 1) (fun j => if j < (zc (pL lo) 0 i).toNat then z j else q4_) ++ (gB c1 (fun j => if j < (L - 1).toNat then sk r 0 j else r 0) L.toNat 2 (fL (upZ (skF K 0) (L - 1) (K 0)) (upZ (skF Dm 0) (L - 1) (Dm 0))) ++ (gR c2 u2_ L.toNat (fun j => if j < (L - 1).toNat then sk r 0 j else r 0) ++ (gO o u2_ sa dy li so sp ++ (gR c2 sa S.toNat q ++ (gB c1 q S.toNat 4 (fS lo hi su db) ++ ([])))))))) (perm_of_count (fun cnt h1_ h0_ => by simp only [wU, wS, wGS, h1_, h0_] <;> omega)) ?_
      refine J.pushS hz9.1 ?_
      refine J.cast (ws' := gB c1 (fun j => if j < (zc (pL lo) 0 i).toNat then z j else q4_) ((zc (pL lo) 0 i + 1).toNat) 4 (fS (upZ (cmp (pL lo) (low1 lo) i) (zc (pL lo) 0 i) ((lo i) - 1)) (upZ (cmp (pL lo) (low1 hi) i) (zc (pL lo) 0 i) ((hi i) - 1)) (upZ (cmp (pL lo) su i) (zc (pL lo) 0 i) (su i)) (upZ (cmp (pL lo) db i) (zc (pL lo) 0 i) (db i))) ++ (gR c2 u5_ ((zc (pL lo) 0 i + 1).toNat) (fun j => if j < (zc (pL lo) 0 i).toNat then z j else q4_) ++ (gB c1 (fun j => if j < (L - 1).toNat then sk r 0 j else r 0) L.toNat 2 (fL (upZ (skF K 0) (L - 1) (K 0)) (upZ (skF Dm 0) (L - 1) (Dm 0))) ++ (gR c2 u2_ L.toNat (fun j => if j < (L - 1).toNat then sk r 0 j else r 0) ++ (gO o u2_ sa dy li so sp ++ (gR c2 sa S.toNat q ++ (gB c1 q S.toNat 4 (fS lo hi su db) ++ ([])))))))) ?_ (by rw [show (zc (pL lo) 0 i + 1).toNat = (zc (pL lo) 0 i).toNat + 1 by omega]) rfl rfl
      refine j_astore_n (pc := 99) C (lv' := [(0, .ref o), (2, .ref u5_), (3, .ref sa), (4, .int (zI S)), (5, .int (zI i)), (6, .ref (q i.toNat))]) dX1_turnOver_99 (by decide) [1, 0, 2, 3, 4, 5] rfl ?_
      refine j_iinc (pc := 100) C (x := i) (lv' := [(0, .ref o), (2, .ref u5_), (3, .ref sa), (4, .int (zI S)), (5, .int (zI (i + 1))), (6, .ref (q i.toNat))]) dX1_turnOver_100 4 rfl (by decide) [1, 2, 3, 4, 0, 5] rfl ?_
      refine j_goto (pc := 103) C 40 dX1_turnOver_103 (by decide) ?_
      refine J.sub (ws' := gR c2 u5_ ((zc (pL lo) 0 i + 1).toNat) (fun j => if j < (zc (pL lo) 0 i).toNat then z j else q4_) ++ (gB c1 (fun j => if j < (zc (pL lo) 0 i).toNat then z j else q4_) ((zc (pL lo) 0 i + 1).toNat) 4 (fS (upZ (cmp (pL lo) (low1 lo) i) (zc (pL lo) 0 i) ((lo i) - 1)) (upZ (cmp (pL lo) (low1 hi) i) (zc (pL lo) 0 i) ((hi i) - 1)) (upZ (cmp (pL lo) su i) (zc (pL lo) 0 i) (su i)) (upZ (cmp (pL lo) db i) (zc (pL lo) 0 i) (db i))) ++ (gB c1 (fun j => if j < (L - 1).toNat then sk r 0 j else r 0) L.toNat 2 (fL (upZ (skF K 0) (L - 1) (K 0)) (upZ (skF Dm 0) (L - 1) (Dm 0))) ++ (gR c2 u2_ L.toNat (fun j => if j < (L - 1).toNat then sk r 0 j else r 0) ++ (gO o u2_ sa dy li so sp ++ (gR c2 sa S.toNat q ++ (gB c1 q S.toNat 4 (fS lo hi su db) ++ ([])))))))) (rest := []) (perm_of_count (fun cnt h1_ h0_ => by simp only [wU, wS, wGS, h1_, h0_] <;> omega)) ?_
      refine J.pick (lv' := [(0, .ref o), (2, .ref u5_), (3, .ref sa), (4, .int (zI S)), (5, .int (zI (i + 1)))]) [0, 1, 2, 3, 4] rfl ?_
      exact J.widen (by omega) (by omega) (J.cast (hk_40 ⟨u5_, fun j => if j < (zc (pL lo) 0 i).toNat then z j else q4_⟩ trivial) (by rw [zc_t (pL lo) 0 i (by omega) hp9, cmp_t (pL lo) _ i (by omega) hp9, cmp_t (pL lo) _ i (by omega) hp9, cmp_t (pL lo) _ i (by omega) hp9, cmp_t (pL lo) _ i (by omega) hp9, show low1 hi i = hi i - 1 from rfl, show low1 lo i = lo i - 1 from rfl] <;> rfl) (by rfl) rfl)
  · intro x9 hI_40
    obtain ⟨u, z⟩ := x9
    try dsimp only at hI_40 ⊢
    have hz8 := zc_le (pL lo) 0 S hS0
    refine j_iload (pc := 40) C dX1_turnOver_40 4 rfl ?_
    refine j_iload (pc := 42) C dX1_turnOver_42 3 rfl ?_
    refine j_icmp_ge (pc := 44) C 106 dX1_turnOver_44 (by decide) ⟨by omega, by omega⟩ ⟨by omega, by omega⟩ (fun c_44 => ?_) (fun c_44 => absurd c_44 (by omega))
    refine j_aload_n (pc := 106) C dX1_turnOver_106 0 rfl ?_
    refine j_get (pc := 107) C (ref := "GrainSiloLaw$Sim") (T := TX1) (N := 6) hin _ (At.r (At.r (At.r (At.r (At.l (k := 0) rfl))))) rfl 5 (by decide) (C.w 3 rfl) rfl rfl dX1_turnOver_107 ?_
    refine j_alen (pc := 110) C _ 1 (At.r (At.r (At.r (At.r (At.r (At.l (k := 0) rfl)))))) rfl (z := S) (alen_eq (by omega) (by omega)) dX1_turnOver_110 ?_
    refine j_aload_n (pc := 111) C dX1_turnOver_111 1 rfl ?_
    refine j_alen (pc := 112) C _ 1 (At.l (k := 0) rfl) rfl (z := zc (pL lo) 0 S) (alen_eq (by omega) (by omega)) dX1_turnOver_112 ?_
    refine j_isub (pc := 113) C dX1_turnOver_113 ?_
    refine j_istore_n (pc := 114) C (lv' := [(0, .ref o), (2, .ref u), (3, .int (zI (S - (zc (pL lo) 0 S)))), (4, .int (zI S)), (5, .int (zI S))]) dX1_turnOver_114 (by decide) [1, 2, 0, 3, 4] rfl ?_
    refine j_aload_n (pc := 115) C dX1_turnOver_115 0 rfl ?_
    refine j_aload_n (pc := 116) C dX1_turnOver_116 1 rfl ?_
    refine j_putR (pc := 117) C (ref := "GrainSiloLaw$Sim") (T := TX1) (N := 6) (ws' := gR c2 u ((zc (pL lo) 0 S).toNat) z ++ (gB c1 z ((zc (pL lo) 0 S).toNat) 4 (fS (cmp (pL lo) (low1 lo) S) (cmp (pL lo) (low1 hi) S) (cmp (pL lo) su S) (cmp (pL lo) db S)) ++ (gB c1 (fun j => if j < (L - 1).toNat then sk r 0 j else r 0) L.toNat 2 (fL (upZ (skF K 0) (L - 1) (K 0)) (upZ (skF Dm 0) (L - 1) (Dm 0))) ++ (gR c2 u2_ L.toNat (fun j => if j < (L - 1).toNat then sk r 0 j else r 0) ++ (gO o u2_ u dy li so sp ++ (gR c2 sa S.toNat q ++ (gB c1 q S.toNat 4 (fS lo hi su db) ++ ([])))))))) hin tyX1 tyX1_ok nmX1 _ (At.r (At.r (At.r (At.r (At.l (k := 0) rfl))))) rfl 5 (by decide) (C.w 3 rfl) rfl rfl (by decide +kernel) (Nat.le_of_ble_eq_true rfl) (Pu.r (Pu.r (Pu.r (Pu.r (Pu.l (k := 0) (hk := rfl) rfl))))) dX1_turnOver_117 ?_
    refine J.sub (ws' := gR c2 u ((zc (pL lo) 0 S).toNat) z ++ (gB c1 z ((zc (pL lo) 0 S).toNat) 4 (fS (cmp (pL lo) (low1 lo) S) (cmp (pL lo) (low1 hi) S) (cmp (pL lo) su S) (cmp (pL lo) db S)) ++ (gB c1 (fun j => if j < (L - 1).toNat then sk r 0 j else r 0) L.toNat 2 (fL (upZ (skF K 0) (L - 1) (K 0)) (upZ (skF Dm 0) (L - 1) (Dm 0))) ++ (gR c2 u2_ L.toNat (fun j => if j < (L - 1).toNat then sk r 0 j else r 0) ++ (gO o u2_ u dy li so sp ++ ([])))))) (rest := gR c2 sa S.toNat q ++ (gB c1 q S.toNat 4 (fS lo hi su db))) (perm_of_count (fun cnt h1_ h0_ => by simp only [wU, wS, wGS, h1_, h0_] <;> omega)) ?_
    refine j_iload_n (pc := 120) C dX1_turnOver_120 2 rfl ?_
    refine J.sub (ws' := wS c1 c2 o u2_ u (fun j => if j < (L - 1).toNat then sk r 0 j else r 0) z dy li so sp L (upZ (skF K 0) (L - 1) (K 0)) (upZ (skF Dm 0) (L - 1) (Dm 0)) (zc (pL lo) 0 S) (cmp (pL lo) (low1 lo) S) (cmp (pL lo) (low1 hi) S) (cmp (pL lo) su S) (cmp (pL lo) db S)) (rest := []) (perm_of_count (fun cnt h1_ h0_ => by simp only [wU, wS, wGS, h1_, h0_] <;> omega)) ?_
    exact j_iretE (pc := 121) C hr dX1_turnOver_121 ⟨u2_, u, z⟩ trivial (by rfl) (by rfl) (by omega) (by omega)
set_option maxHeartbeats 4000000 in
set_option maxRecDepth 100000 in
theorem kX1_pass (l : Launch) (D : va_G) (c1 c2 c3 : ClassId) (o la sa : Nat) (r q : Nat → Nat) (dy li so sp L : Int) (K Dm : Int → Int) (S : Int) (lo hi su db : Int → Int) (hL0 : 0 ≤ L) (hL : L ≤ 12) (hS0 : 0 ≤ S) (hS : S ≤ 16) (hf : ∀ j, 0 ≤ j → j < L → 0 ≤ Dm j ∧ Dm j ≤ 40) : eI l yX1_pass wsX1_pass ({ frames := 0, cells := 1, slots := 12, locals := 0 }) D (tyS c1 c2 c3) [.ref o] (wS c1 c2 o la sa r q dy li so sp L K Dm S lo hi su db) E1 (fun (u9 : Unit) => True) (fun (u9 : Unit) => wS c1 c2 o la sa r q (dy + 1) li so sp L K (mix (turnD Dm L) Dm L) S lo hi su (mix (fun j => db j + (hi j - lo j + 1)) db S)) (fun (u9 : Unit) => zI (turnC Dm L)) 1 12 := by
  refine eI.of (cc := cX1_pass) (maxL := 8) (ret := .int) (by decide) rfl (lv := [(0, .ref o)]) [0] rfl (Nat.le_of_ble_eq_true rfl) ?_
  intro p e s m args below meth c A C hr hE hAw
  have ho : va_AOA .int s := hE
  have C : GC p s m args meth c cX1_pass 8 RX1 wsX1_pass D (tyS c1 c2 c3) A := C
  have hin : ∀ w ∈ wsX10, w ∈ wsX1_pass := fun _ h => List.mem_cons_of_mem _ (List.mem_append_right _ h)
  refine J.cast (ws' := gO o la sa dy li so sp ++ (gR c2 la L.toNat r ++ (gR c2 sa S.toNat q ++ (gB c1 r L.toNat 2 (fL K Dm) ++ (gB c1 q S.toNat 4 (fS lo hi su db) ++ ([])))))) (lv' := [(0, .ref o)]) (st' := []) ?_ (by rfl) rfl rfl
  refine j_aload_n (pc := 0) C dX1_pass_0 0 rfl ?_
  refine j_get (pc := 1) C (ref := "GrainSiloLaw$Sim") (T := TX1) (N := 6) hin _ (At.l (k := 0) rfl) rfl 4 (by decide) (C.w 1 rfl) rfl rfl dX1_pass_1 ?_
  refine j_alen (pc := 4) C _ 1 (At.r (At.l (k := 0) rfl)) rfl (z := L) (alen_eq (by omega) (by omega)) dX1_pass_4 ?_
  refine j_istore_n (pc := 5) C (lv' := [(0, .ref o), (1, .int (zI L))]) dX1_pass_5 (by decide) [1, 0] rfl ?_
  refine j_iload_n (pc := 6) C dX1_pass_6 1 rfl ?_
  refine j_newI (pc := 7) C (C.w 2 rfl) 0 rfl (n := L.toNat) (by omega) (by omega) (by show _ ≤ 1; omega) (by show _ ≤ 12; omega) dX1_pass_7 (fun q1_ => ?_)
  refine J.perm (ws' := gA c1 q1_ L.toNat (fun _ => 0) ++ (gO o la sa dy li so sp ++ (gR c2 la L.toNat r ++ (gR c2 sa S.toNat q ++ (gB c1 r L.toNat 2 (fL K Dm) ++ (gB c1 q S.toNat 4 (fS lo hi su db) ++ ([]))))))) (List.Perm.trans (List.Perm.of_eq (show _ = (gO o la sa dy li so sp ++ (gR c2 la L.toNat r ++ (gR c2 sa S.toNat q ++ (gB c1 r L.toNat 2 (fL K Dm) ++ (gB c1 q S.toNat 4 (fS lo hi su db) ++ ([])))))) ++ (gA c1 q1_ L.toNat (fun _ => 0)) from rfl)) (perm_of_count (fun cnt h1_ h0_ => by simp only [wU, wS, wGS, h1_, h0_] <;> omega))) ?_
  refine j_astore_n (pc := 9) C (lv' := [(0, .ref o), (1, .int (zI L)), (2, .ref q1_)]) dX1_pass_9 (by decide) [1, 2, 0] rfl ?_
  refine j_iconst (pc := 10) C dX1_pass_10 ?_
  refine j_istore_n (pc := 11) C (lv' := [(0, .ref o), (1, .int (zI L)), (2, .ref q1_), (3, .int (zI 0))]) dX1_pass_11 (by decide) [1, 2, 3, 0] rfl ?_
  refine j_iconst (pc := 12) C dX1_pass_12 ?_
  refine j_istore (pc := 13) C (lv' := [(0, .ref o), (1, .int (zI L)), (2, .ref q1_), (3, .int (zI 0)), (4, .int (zI 0))]) dX1_pass_13 (by decide) [1, 2, 3, 4, 0] rfl ?_
  refine J.cast (ws' := gA c1 q1_ L.toNat (mix (turnD Dm L) (fun _ => 0) ((0 : Int))) ++ (gO o la sa dy li so sp ++ (gR c2 la L.toNat r ++ (gR c2 sa S.toNat q ++ (gB c1 r L.toNat 2 (fL K Dm) ++ (gB c1 q S.toNat 4 (fS lo hi su db) ++ ([]))))))) (lv' := [(0, .ref o), (1, .int (zI L)), (2, .ref q1_), (3, .int (zI (zc (fun j => decide (turn Dm L j ≠ 0)) 0 ((0 : Int))))), (4, .int (zI (((0 : Int)))))]) ?_ (by rw [mix_0]) (by rw [zc_0]) rfl
  refine J.widen (k := 1) (n := L.toNat) (by omega) (by omega) ?_
  refine j_loop (X := Unit) (fun (i : Int) x9 => gA c1 q1_ L.toNat (mix (turnD Dm L) (fun _ => 0) i) ++ (gO o la sa dy li so sp ++ (gR c2 la L.toNat r ++ (gR c2 sa S.toNat q ++ (gB c1 r L.toNat 2 (fL K Dm) ++ (gB c1 q S.toNat 4 (fS lo hi su db) ++ ([]))))))) (fun (i : Int) x9 => [(0, .ref o), (1, .int (zI L)), (2, .ref q1_), (3, .int (zI (zc (fun j => decide (turn Dm L j ≠ 0)) 0 i))), (4, .int (zI i))]) (fun (i : Int) x9 => True) (fun (i : Int) => 1) (fun (i : Int) => L.toNat) (0 : Int) L (by omega) ?_ ?_ () trivial
  · intro i x9 h0_15 h1_15 hI_15 hk_15
    try dsimp only at hI_15 hk_15 ⊢
    have hi9 := hf i h0_15 h1_15
    have he9 := e_in Dm L i
    refine j_iload (pc := 15) C dX1_pass_15 4 rfl ?_
    refine j_iload_n (pc := 17) C dX1_pass_17 1 rfl ?_
    refine j_icmp_ge (pc := 18) C 207 dX1_pass_18 (by decide) ⟨by omega, by omega⟩ ⟨by omega, by omega⟩ (fun c_18 => absurd c_18 (by omega)) (fun c_18 => ?_)
    refine j_aload_n (pc := 21) C dX1_pass_21 0 rfl ?_
    refine j_get (pc := 22) C (ref := "GrainSiloLaw$Sim") (T := TX1) (N := 6) hin _ (At.r (At.l (k := 0) rfl)) rfl 4 (by decide) (C.w 1 rfl) rfl rfl dX1_pass_22 ?_
    refine j_iload (pc := 25) C dX1_pass_25 4 rfl ?_
    refine j_aald (pc := 27) C _ 1 (g := r) (At.r (At.r (At.l (k := 0) rfl))) rfl (by omega) (by omega) (by omega) dX1_pass_27 ?_
    refine j_iconst (pc := 28) C dX1_pass_28 ?_
    refine j_iald (pc := 29) C _ 0 (At.r (At.r (At.r (At.r (At.l (gB_at (by omega) (by omega))))))) rfl (by omega) (by omega) (by omega) dX1_pass_29 ?_
    refine J.cast (ws' := gA c1 q1_ L.toNat (mix (turnD Dm L) (fun _ => 0) i) ++ (gO o la sa dy li so sp ++ (gR c2 la L.toNat r ++ (gR c2 sa S.toNat q ++ (gB c1 r L.toNat 2 (fL K Dm) ++ (gB c1 q S.toNat 4 (fS lo hi su db) ++ ([]))))))) (lv' := [(0, .ref o), (1, .int (zI L)), (2, .ref q1_), (3, .int (zI (zc (fun j => decide (turn Dm L j ≠ 0)) 0 i))), (4, .int (zI i))]) (st' := [.int (zI (Dm i))]) ?_ rfl rfl rfl
    refine j_istore (pc := 30) C (lv' := [(0, .ref o), (1, .int (zI L)), (2, .ref q1_), (3, .int (zI (zc (fun j => decide (turn Dm L j ≠ 0)) 0 i))), (4, .int (zI i)), (5, .int (zI (Dm i)))]) dX1_pass_30 (by decide) [1, 2, 3, 4, 5, 0] rfl ?_
    refine J.join (X := Unit) (fun x9 => gA c1 q1_ L.toNat (mix (turnD Dm L) (fun _ => 0) i) ++ (gO o la sa dy li so sp ++ (gR c2 la L.toNat r ++ (gR c2 sa S.toNat q ++ (gB c1 r L.toNat 2 (fL K Dm) ++ (gB c1 q S.toNat 4 (fS lo hi su db) ++ ([]))))))) (fun x9 => [(0, .ref o), (1, .int (zI L)), (2, .ref q1_), (3, .int (zI (zc (fun j => decide (turn Dm L j ≠ 0)) 0 i))), (4, .int (zI i)), (5, .int (zI (Dm i)))]) (fun x9 => [.int (zI (eU Dm i))]) (fun x9 => True) 60 (0 + 1) (0 + L.toNat) ?_ ?_
    · intro x9 hJ_60
      try dsimp only at hJ_60 ⊢
      refine J.join (X := Unit) (fun x9 => gA c1 q1_ L.toNat (mix (turnD Dm L) (fun _ => 0) i) ++ (gO o la sa dy li so sp ++ (gR c2 la L.toNat r ++ (gR c2 sa S.toNat q ++ (gB c1 r L.toNat 2 (fL K Dm) ++ (gB c1 q S.toNat 4 (fS lo hi su db) ++ ([]))))))) (fun x9 => [(0, .ref o), (1, .int (zI L)), (2, .ref q1_), (3, .int (zI (zc (fun j => decide (turn Dm L j ≠ 0)) 0 i))), (4, .int (zI i)), (5, .int (zI (Dm i)))]) (fun x9 => [.int (zI (eV' Dm L i)), .int (zI (eU Dm i))]) (fun x9 => True) 91 (0 + 1) (0 + L.toNat) ?_ ?_
      · intro x9 hJ_91
        try dsimp only at hJ_91 ⊢
        refine j_iadd (pc := 91) C dX1_pass_91 ?_
        refine j_istore (pc := 92) C (lv' := [(0, .ref o), (1, .int (zI L)), (2, .ref q1_), (3, .int (zI (zc (fun j => decide (turn Dm L j ≠ 0)) 0 i))), (4, .int (zI i)), (5, .int (zI (Dm i))), (6, .int (zI ((eU Dm i) + (eV' Dm L i))))]) dX1_pass_92 (by decide) [1, 2, 3, 4, 5, 6, 0] rfl ?_
        refine J.join (X := Unit) (fun x9 => gA c1 q1_ L.toNat (mix (turnD Dm L) (fun _ => 0) i) ++ (gO o la sa dy li so sp ++ (gR c2 la L.toNat r ++ (gR c2 sa S.toNat q ++ (gB c1 r L.toNat 2 (fL K Dm) ++ (gB c1 q S.toNat 4 (fS lo hi su db) ++ ([]))))))) (fun x9 => [(0, .ref o), (1, .int (zI L)), (2, .ref q1_), (3, .int (zI (zc (fun j => decide (turn Dm L j ≠ 0)) 0 i))), (4, .int (zI i)), (5, .int (zI (Dm i))), (6, .int (zI ((eU Dm i) + (eV' Dm L i))))]) (fun x9 => [.int (zI (eW Dm i))]) (fun x9 => True) 122 (0 + 1) (0 + L.toNat) ?_ ?_
        · intro x9 hJ_122
          try dsimp only at hJ_122 ⊢
          refine J.join (X := Unit) (fun x9 => gA c1 q1_ L.toNat (mix (turnD Dm L) (fun _ => 0) i) ++ (gO o la sa dy li so sp ++ (gR c2 la L.toNat r ++ (gR c2 sa S.toNat q ++ (gB c1 r L.toNat 2 (fL K Dm) ++ (gB c1 q S.toNat 4 (fS lo hi su db) ++ ([]))))))) (fun x9 => [(0, .ref o), (1, .int (zI L)), (2, .ref q1_), (3, .int (zI (zc (fun j => decide (turn Dm L j ≠ 0)) 0 i))), (4, .int (zI i)), (5, .int (zI (Dm i))), (6, .int (zI ((eU Dm i) + (eV' Dm L i))))]) (fun x9 => [.int (zI (eX Dm L i)), .int (zI (eW Dm i))]) (fun x9 => True) 153 (0 + 1) (0 + L.toNat) ?_ ?_
          · intro x9 hJ_153
            try dsimp only at hJ_153 ⊢
            refine j_iadd (pc := 153) C dX1_pass_153 ?_
            refine j_istore (pc := 154) C (lv' := [(0, .ref o), (1, .int (zI L)), (2, .ref q1_), (3, .int (zI (zc (fun j => decide (turn Dm L j ≠ 0)) 0 i))), (4, .int (zI i)), (5, .int (zI (Dm i))), (6, .int (zI ((eU Dm i) + (eV' Dm L i)))), (7, .int (zI ((eW Dm i) + (eX Dm L i))))]) dX1_pass_154 (by decide) [1, 2, 3, 4, 5, 6, 7, 0] rfl ?_
            refine j_aload_n (pc := 156) C dX1_pass_156 2 rfl ?_
            refine j_iload (pc := 157) C dX1_pass_157 4 rfl ?_
            refine j_iload (pc := 159) C dX1_pass_159 5 rfl ?_
            refine J.join (X := Unit) (fun x9 => gA c1 q1_ L.toNat (mix (turnD Dm L) (fun _ => 0) i) ++ (gO o la sa dy li so sp ++ (gR c2 la L.toNat r ++ (gR c2 sa S.toNat q ++ (gB c1 r L.toNat 2 (fL K Dm) ++ (gB c1 q S.toNat 4 (fS lo hi su db) ++ ([]))))))) (fun x9 => [(0, .ref o), (1, .int (zI L)), (2, .ref q1_), (3, .int (zI (zc (fun j => decide (turn Dm L j ≠ 0)) 0 i))), (4, .int (zI i)), (5, .int (zI (Dm i))), (6, .int (zI ((eU Dm i) + (eV' Dm L i)))), (7, .int (zI ((eW Dm i) + (eX Dm L i))))]) (fun x9 => [.int (zI (turn Dm L i)), .int (zI (Dm i)), .int (zI i), .ref q1_]) (fun x9 => True) 184 (0 + 1) (0 + L.toNat) ?_ ?_
            · intro x9 hJ_184
              try dsimp only at hJ_184 ⊢
              refine j_iadd (pc := 184) C dX1_pass_184 ?_
              refine j_iast (pc := 185) C _ 0 (At.l (k := 0) rfl) rfl (by omega) (by omega) (by omega) (ws' := gA c1 q1_ L.toNat (upZ (mix (turnD Dm L) (fun _ => 0) i) i ((Dm i) + (turn Dm L i))) ++ (gO o la sa dy li so sp ++ (gR c2 la L.toNat r ++ (gR c2 sa S.toNat q ++ (gB c1 r L.toNat 2 (fL K Dm) ++ (gB c1 q S.toNat 4 (fS lo hi su db) ++ ([]))))))) (Pu.l (k := 0) (hk := rfl) rfl) dX1_pass_185 ?_
              refine j_iload_n (pc := 186) C dX1_pass_186 3 rfl ?_
              refine J.join (X := Unit) (fun x9 => gA c1 q1_ L.toNat (upZ (mix (turnD Dm L) (fun _ => 0) i) i ((Dm i) + (turn Dm L i))) ++ (gO o la sa dy li so sp ++ (gR c2 la L.toNat r ++ (gR c2 sa S.toNat q ++ (gB c1 r L.toNat 2 (fL K Dm) ++ (gB c1 q S.toNat 4 (fS lo hi su db) ++ ([]))))))) (fun x9 => [(0, .ref o), (1, .int (zI L)), (2, .ref q1_), (3, .int (zI (zc (fun j => decide (turn Dm L j ≠ 0)) 0 i))), (4, .int (zI i)), (5, .int (zI (Dm i))), (6, .int (zI ((eU Dm i) + (eV' Dm L i)))), (7, .int (zI ((eW Dm i) + (eX Dm L i))))]) (fun x9 => [.int (zI (if turn Dm L i = 0 then 0 else 1)), .int (zI (zc (fun j => decide (turn Dm L j ≠ 0)) 0 i))]) (fun x9 => True) 199 (0 + 1) (0 + L.toNat) ?_ ?_
              · intro x9 hJ_199
                try dsimp only at hJ_199 ⊢
                refine j_iadd (pc := 199) C dX1_pass_199 ?_
                refine j_istore_n (pc := 200) C (lv' := [(0, .ref o), (1, .int (zI L)), (2, .ref q1_), (3, .int (zI ((zc (fun j => decide (turn Dm L j ≠ 0)) 0 i) + (if turn Dm L i = 0 then 0 else 1)))), (4, .int (zI i)), (5, .int (zI (Dm i))), (6, .int (zI ((eU Dm i) + (eV' Dm L i)))), (7, .int (zI ((eW Dm i) + (eX Dm L i))))]) dX1_pass_200 (by decide) [1, 2, 3, 0, 4, 5, 6, 7] rfl ?_
                refine j_iinc (pc := 201) C (x := i) (lv' := [(0, .ref o), (1, .int (zI L)), (2, .ref q1_), (3, .int (zI ((zc (fun j => decide (turn Dm L j ≠ 0)) 0 i) + (if turn Dm L i = 0 then 0 else 1)))), (4, .int (zI (i + 1))), (5, .int (zI (Dm i))), (6, .int (zI ((eU Dm i) + (eV' Dm L i)))), (7, .int (zI ((eW Dm i) + (eX Dm L i))))]) dX1_pass_201 4 rfl (by decide) [1, 2, 3, 4, 0, 5, 6, 7] rfl ?_
                refine j_goto (pc := 204) C 15 dX1_pass_204 (by decide) ?_
                refine J.pick (lv' := [(0, .ref o), (1, .int (zI L)), (2, .ref q1_), (3, .int (zI ((zc (fun j => decide (turn Dm L j ≠ 0)) 0 i) + (if turn Dm L i = 0 then 0 else 1)))), (4, .int (zI (i + 1)))]) [0, 1, 2, 3, 4] rfl ?_
                exact J.widen (by omega) (by omega) (J.cast (hk_15 () trivial) (by rw [mix_up _ _ i h0_15]; rfl) (by rw [zc_trn _ _ i h0_15]) rfl)
              · intro kj_199
                try dsimp only at kj_199 ⊢
                refine j_iload (pc := 187) C dX1_pass_187 6 rfl ?_
                refine j_iload (pc := 189) C dX1_pass_189 7 rfl ?_
                refine j_icmp_ne (pc := 191) C 198 dX1_pass_191 (by decide) ⟨by omega, by omega⟩ ⟨by omega, by omega⟩ (fun c_191 => ?_) (fun c_191 => ?_)
                · skip
                  refine j_iconst (pc := 198) C dX1_pass_198 ?_
                  exact J.widen (by omega) (by omega) (J.cast (kj_199 () trivial) (by rfl) (by rfl) (by rw [if_neg (trn_ne h0_15 h1_15 c_191)]))
                · skip
                  refine j_iconst (pc := 194) C dX1_pass_194 ?_
                  refine j_goto (pc := 195) C 199 dX1_pass_195 (by decide) ?_
                  exact J.widen (by omega) (by omega) (J.cast (kj_199 () trivial) (by rfl) (by rfl) (by rw [if_pos (trn_z h0_15 h1_15 c_191)]))
            · intro kj_184
              try dsimp only at kj_184 ⊢
              refine j_iload (pc := 161) C dX1_pass_161 6 rfl ?_
              refine j_iload (pc := 163) C dX1_pass_163 7 rfl ?_
              refine j_icmp_le (pc := 165) C 172 dX1_pass_165 (by decide) ⟨by omega, by omega⟩ ⟨by omega, by omega⟩ (fun c_165 => ?_) (fun c_165 => ?_)
              · skip
                refine j_iload (pc := 172) C dX1_pass_172 6 rfl ?_
                refine j_iload (pc := 174) C dX1_pass_174 7 rfl ?_
                refine j_icmp_ge (pc := 176) C 183 dX1_pass_176 (by decide) ⟨by omega, by omega⟩ ⟨by omega, by omega⟩ (fun c_176 => ?_) (fun c_176 => ?_)
                · skip
                  refine j_iconst (pc := 183) C dX1_pass_183 ?_
                  exact J.widen (by omega) (by omega) (J.cast (kj_184 () trivial) (by rfl) (by rfl) (by rw [trn_eq h0_15 h1_15]; rw [if_neg (by omega), if_neg (by omega)]))
                · skip
                  refine j_iconst (pc := 179) C dX1_pass_179 ?_
                  refine j_goto (pc := 180) C 184 dX1_pass_180 (by decide) ?_
                  exact J.widen (by omega) (by omega) (J.cast (kj_184 () trivial) (by rfl) (by rfl) (by rw [trn_eq h0_15 h1_15]; rw [if_neg (by omega), if_pos (by omega)]))
              · skip
                refine j_iconst (pc := 168) C dX1_pass_168 ?_
                refine j_goto (pc := 169) C 184 dX1_pass_169 (by decide) ?_
                exact J.widen (by omega) (by omega) (J.cast (kj_184 () trivial) (by rfl) (by rfl) (by rw [trn_eq h0_15 h1_15]; rw [if_pos (by omega)]))
          · intro kj_153
            try dsimp only at kj_153 ⊢
            refine j_iload (pc := 122) C dX1_pass_122 4 rfl ?_
            refine j_iconst (pc := 124) C dX1_pass_124 ?_
            refine j_iadd (pc := 125) C dX1_pass_125 ?_
            refine j_iload_n (pc := 126) C dX1_pass_126 1 rfl ?_
            refine j_icmp_ge (pc := 127) C 152 dX1_pass_127 (by decide) ⟨by omega, by omega⟩ ⟨by omega, by omega⟩ (fun c_127 => ?_) (fun c_127 => ?_)
            · skip
              refine j_iconst (pc := 152) C dX1_pass_152 ?_
              exact J.widen (by omega) (by omega) (J.cast (kj_153 () trivial) (by rfl) (by rfl) (by unfold eX; rw [if_neg (by omega)]))
            · skip
              refine j_aload_n (pc := 130) C dX1_pass_130 0 rfl ?_
              refine j_get (pc := 131) C (ref := "GrainSiloLaw$Sim") (T := TX1) (N := 6) hin _ (At.r (At.l (k := 0) rfl)) rfl 4 (by decide) (C.w 1 rfl) rfl rfl dX1_pass_131 ?_
              refine j_iload (pc := 134) C dX1_pass_134 4 rfl ?_
              refine j_iconst (pc := 136) C dX1_pass_136 ?_
              refine j_iadd (pc := 137) C dX1_pass_137 ?_
              have hi7 := hf (i + 1) (by omega) (by omega)
              refine j_aald (pc := 138) C _ 1 (g := r) (At.r (At.r (At.l (k := 0) rfl))) rfl (by omega) (by omega) (by omega) dX1_pass_138 ?_
              refine j_iconst (pc := 139) C dX1_pass_139 ?_
              refine j_iald (pc := 140) C _ 0 (At.r (At.r (At.r (At.r (At.l (gB_at (by omega) (by omega))))))) rfl (by omega) (by omega) (by omega) dX1_pass_140 ?_
              refine J.cast (ws' := gA c1 q1_ L.toNat (mix (turnD Dm L) (fun _ => 0) i) ++ (gO o la sa dy li so sp ++ (gR c2 la L.toNat r ++ (gR c2 sa S.toNat q ++ (gB c1 r L.toNat 2 (fL K Dm) ++ (gB c1 q S.toNat 4 (fS lo hi su db) ++ ([]))))))) (lv' := [(0, .ref o), (1, .int (zI L)), (2, .ref q1_), (3, .int (zI (zc (fun j => decide (turn Dm L j ≠ 0)) 0 i))), (4, .int (zI i)), (5, .int (zI (Dm i))), (6, .int (zI ((eU Dm i) + (eV' Dm L i))))]) (st' := [.int (zI (Dm (i + 1))), .int (zI (eW Dm i))]) ?_ rfl rfl rfl
              refine j_iload (pc := 141) C dX1_pass_141 5 rfl ?_
              refine j_iconst (pc := 143) C dX1_pass_143 ?_
              refine j_isub (pc := 144) C dX1_pass_144 ?_
              refine j_icmp_ge (pc := 145) C 152 dX1_pass_145 (by decide) ⟨by omega, by omega⟩ ⟨by omega, by omega⟩ (fun c_145 => ?_) (fun c_145 => ?_)
              · skip
                refine j_iconst (pc := 152) C dX1_pass_152 ?_
                exact J.widen (by omega) (by omega) (J.cast (kj_153 () trivial) (by rfl) (by rfl) (by unfold eX; rw [if_neg (by omega)]))
              · skip
                refine j_iconst (pc := 148) C dX1_pass_148 ?_
                refine j_goto (pc := 149) C 153 dX1_pass_149 (by decide) ?_
                exact J.widen (by omega) (by omega) (J.cast (kj_153 () trivial) (by rfl) (by rfl) (by unfold eX; rw [if_pos (by omega)]))
        · intro kj_122
          try dsimp only at kj_122 ⊢
          refine j_iload (pc := 94) C dX1_pass_94 4 rfl ?_
          refine j_if_le (pc := 96) C 121 dX1_pass_96 (by decide) ⟨by omega, by omega⟩ (fun c_96 => ?_) (fun c_96 => ?_)
          · skip
            refine j_iconst (pc := 121) C dX1_pass_121 ?_
            exact J.widen (by omega) (by omega) (J.cast (kj_122 () trivial) (by rfl) (by rfl) (by unfold eW; rw [if_neg (by omega)]))
          · skip
            refine j_aload_n (pc := 99) C dX1_pass_99 0 rfl ?_
            refine j_get (pc := 100) C (ref := "GrainSiloLaw$Sim") (T := TX1) (N := 6) hin _ (At.r (At.l (k := 0) rfl)) rfl 4 (by decide) (C.w 1 rfl) rfl rfl dX1_pass_100 ?_
            refine j_iload (pc := 103) C dX1_pass_103 4 rfl ?_
            refine j_iconst (pc := 105) C dX1_pass_105 ?_
            refine j_isub (pc := 106) C dX1_pass_106 ?_
            have hi8 := hf (i - 1) (by omega) (by omega)
            refine j_aald (pc := 107) C _ 1 (g := r) (At.r (At.r (At.l (k := 0) rfl))) rfl (by omega) (by omega) (by omega) dX1_pass_107 ?_
            refine j_iconst (pc := 108) C dX1_pass_108 ?_
            refine j_iald (pc := 109) C _ 0 (At.r (At.r (At.r (At.r (At.l (gB_at (by omega) (by omega))))))) rfl (by omega) (by omega) (by omega) dX1_pass_109 ?_
            refine J.cast (ws' := gA c1 q1_ L.toNat (mix (turnD Dm L) (fun _ => 0) i) ++ (gO o la sa dy li so sp ++ (gR c2 la L.toNat r ++ (gR c2 sa S.toNat q ++ (gB c1 r L.toNat 2 (fL K Dm) ++ (gB c1 q S.toNat 4 (fS lo hi su db) ++ ([]))))))) (lv' := [(0, .ref o), (1, .int (zI L)), (2, .ref q1_), (3, .int (zI (zc (fun j => decide (turn Dm L j ≠ 0)) 0 i))), (4, .int (zI i)), (5, .int (zI (Dm i))), (6, .int (zI ((eU Dm i) + (eV' Dm L i))))]) (st' := [.int (zI (Dm (i - 1)))]) ?_ rfl rfl rfl
            refine j_iload (pc := 110) C dX1_pass_110 5 rfl ?_
            refine j_iconst (pc := 112) C dX1_pass_112 ?_
            refine j_isub (pc := 113) C dX1_pass_113 ?_
            refine j_icmp_ge (pc := 114) C 121 dX1_pass_114 (by decide) ⟨by omega, by omega⟩ ⟨by omega, by omega⟩ (fun c_114 => ?_) (fun c_114 => ?_)
            · skip
              refine j_iconst (pc := 121) C dX1_pass_121 ?_
              exact J.widen (by omega) (by omega) (J.cast (kj_122 () trivial) (by rfl) (by rfl) (by unfold eW; rw [if_neg (by omega)]))
            · skip
              refine j_iconst (pc := 117) C dX1_pass_117 ?_
              refine j_goto (pc := 118) C 122 dX1_pass_118 (by decide) ?_
              exact J.widen (by omega) (by omega) (J.cast (kj_122 () trivial) (by rfl) (by rfl) (by unfold eW; rw [if_pos (by omega)]))
      · intro kj_91
        try dsimp only at kj_91 ⊢
        refine j_iload (pc := 60) C dX1_pass_60 4 rfl ?_
        refine j_iconst (pc := 62) C dX1_pass_62 ?_
        refine j_iadd (pc := 63) C dX1_pass_63 ?_
        refine j_iload_n (pc := 64) C dX1_pass_64 1 rfl ?_
        refine j_icmp_ge (pc := 65) C 90 dX1_pass_65 (by decide) ⟨by omega, by omega⟩ ⟨by omega, by omega⟩ (fun c_65 => ?_) (fun c_65 => ?_)
        · skip
          refine j_iconst (pc := 90) C dX1_pass_90 ?_
          exact J.widen (by omega) (by omega) (J.cast (kj_91 () trivial) (by rfl) (by rfl) (by unfold eV'; rw [if_neg (by omega)]))
        · skip
          refine j_aload_n (pc := 68) C dX1_pass_68 0 rfl ?_
          refine j_get (pc := 69) C (ref := "GrainSiloLaw$Sim") (T := TX1) (N := 6) hin _ (At.r (At.l (k := 0) rfl)) rfl 4 (by decide) (C.w 1 rfl) rfl rfl dX1_pass_69 ?_
          refine j_iload (pc := 72) C dX1_pass_72 4 rfl ?_
          refine j_iconst (pc := 74) C dX1_pass_74 ?_
          refine j_iadd (pc := 75) C dX1_pass_75 ?_
          have hi7 := hf (i + 1) (by omega) (by omega)
          refine j_aald (pc := 76) C _ 1 (g := r) (At.r (At.r (At.l (k := 0) rfl))) rfl (by omega) (by omega) (by omega) dX1_pass_76 ?_
          refine j_iconst (pc := 77) C dX1_pass_77 ?_
          refine j_iald (pc := 78) C _ 0 (At.r (At.r (At.r (At.r (At.l (gB_at (by omega) (by omega))))))) rfl (by omega) (by omega) (by omega) dX1_pass_78 ?_
          refine J.cast (ws' := gA c1 q1_ L.toNat (mix (turnD Dm L) (fun _ => 0) i) ++ (gO o la sa dy li so sp ++ (gR c2 la L.toNat r ++ (gR c2 sa S.toNat q ++ (gB c1 r L.toNat 2 (fL K Dm) ++ (gB c1 q S.toNat 4 (fS lo hi su db) ++ ([]))))))) (lv' := [(0, .ref o), (1, .int (zI L)), (2, .ref q1_), (3, .int (zI (zc (fun j => decide (turn Dm L j ≠ 0)) 0 i))), (4, .int (zI i)), (5, .int (zI (Dm i)))]) (st' := [.int (zI (Dm (i + 1))), .int (zI (eU Dm i))]) ?_ rfl rfl rfl
          refine j_iload (pc := 79) C dX1_pass_79 5 rfl ?_
          refine j_iconst (pc := 81) C dX1_pass_81 ?_
          refine j_iadd (pc := 82) C dX1_pass_82 ?_
          refine j_icmp_le (pc := 83) C 90 dX1_pass_83 (by decide) ⟨by omega, by omega⟩ ⟨by omega, by omega⟩ (fun c_83 => ?_) (fun c_83 => ?_)
          · skip
            refine j_iconst (pc := 90) C dX1_pass_90 ?_
            exact J.widen (by omega) (by omega) (J.cast (kj_91 () trivial) (by rfl) (by rfl) (by unfold eV'; rw [if_neg (by omega)]))
          · skip
            refine j_iconst (pc := 86) C dX1_pass_86 ?_
            refine j_goto (pc := 87) C 91 dX1_pass_87 (by decide) ?_
            exact J.widen (by omega) (by omega) (J.cast (kj_91 () trivial) (by rfl) (by rfl) (by unfold eV'; rw [if_pos (by omega)]))
    · intro kj_60
      try dsimp only at kj_60 ⊢
      refine j_iload (pc := 32) C dX1_pass_32 4 rfl ?_
      refine j_if_le (pc := 34) C 59 dX1_pass_34 (by decide) ⟨by omega, by omega⟩ (fun c_34 => ?_) (fun c_34 => ?_)
      · skip
        refine j_iconst (pc := 59) C dX1_pass_59 ?_
        exact J.widen (by omega) (by omega) (J.cast (kj_60 () trivial) (by rfl) (by rfl) (by unfold eU; rw [if_neg (by omega)]))
      · skip
        refine j_aload_n (pc := 37) C dX1_pass_37 0 rfl ?_
        refine j_get (pc := 38) C (ref := "GrainSiloLaw$Sim") (T := TX1) (N := 6) hin _ (At.r (At.l (k := 0) rfl)) rfl 4 (by decide) (C.w 1 rfl) rfl rfl dX1_pass_38 ?_
        refine j_iload (pc := 41) C dX1_pass_41 4 rfl ?_
        refine j_iconst (pc := 43) C dX1_pass_43 ?_
        refine j_isub (pc := 44) C dX1_pass_44 ?_
        have hi8 := hf (i - 1) (by omega) (by omega)
        refine j_aald (pc := 45) C _ 1 (g := r) (At.r (At.r (At.l (k := 0) rfl))) rfl (by omega) (by omega) (by omega) dX1_pass_45 ?_
        refine j_iconst (pc := 46) C dX1_pass_46 ?_
        refine j_iald (pc := 47) C _ 0 (At.r (At.r (At.r (At.r (At.l (gB_at (by omega) (by omega))))))) rfl (by omega) (by omega) (by omega) dX1_pass_47 ?_
        refine J.cast (ws' := gA c1 q1_ L.toNat (mix (turnD Dm L) (fun _ => 0) i) ++ (gO o la sa dy li so sp ++ (gR c2 la L.toNat r ++ (gR c2 sa S.toNat q ++ (gB c1 r L.toNat 2 (fL K Dm) ++ (gB c1 q S.toNat 4 (fS lo hi su db) ++ ([]))))))) (lv' := [(0, .ref o), (1, .int (zI L)), (2, .ref q1_), (3, .int (zI (zc (fun j => decide (turn Dm L j ≠ 0)) 0 i))), (4, .int (zI i)), (5, .int (zI (Dm i)))]) (st' := [.int (zI (Dm (i - 1)))]) ?_ rfl rfl rfl
        refine j_iload (pc := 48) C dX1_pass_48 5 rfl ?_
        refine j_iconst (pc := 50) C dX1_pass_50 ?_
        refine j_iadd (pc := 51) C dX1_pass_51 ?_
        refine j_icmp_le (pc := 52) C 59 dX1_pass_52 (by decide) ⟨by omega, by omega⟩ ⟨by omega, by omega⟩ (fun c_52 => ?_) (fun c_52 => ?_)
        · skip
          refine j_iconst (pc := 59) C dX1_pass_59 ?_
          exact J.widen (by omega) (by omega) (J.cast (kj_60 () trivial) (by rfl) (by rfl) (by unfold eU; rw [if_neg (by omega)]))
        · skip
          refine j_iconst (pc := 55) C dX1_pass_55 ?_
          refine j_goto (pc := 56) C 60 dX1_pass_56 (by decide) ?_
          exact J.widen (by omega) (by omega) (J.cast (kj_60 () trivial) (by rfl) (by rfl) (by unfold eU; rw [if_pos (by omega)]))
  · intro x9 hI_15
    try dsimp only at hI_15 ⊢
    refine j_iload (pc := 15) C dX1_pass_15 4 rfl ?_
    refine j_iload_n (pc := 17) C dX1_pass_17 1 rfl ?_
    refine j_icmp_ge (pc := 18) C 207 dX1_pass_18 (by decide) ⟨by omega, by omega⟩ ⟨by omega, by omega⟩ (fun c_18 => ?_) (fun c_18 => absurd c_18 (by omega))
    refine j_iconst (pc := 207) C dX1_pass_207 ?_
    refine j_istore (pc := 208) C (lv' := [(0, .ref o), (1, .int (zI L)), (2, .ref q1_), (3, .int (zI (zc (fun j => decide (turn Dm L j ≠ 0)) 0 L))), (4, .int (zI 0))]) dX1_pass_208 (by decide) [1, 2, 3, 4, 0] rfl ?_
    refine J.cast (ws' := gA c1 q1_ L.toNat (mix (turnD Dm L) (fun _ => 0) L) ++ (gO o la sa dy li so sp ++ (gR c2 la L.toNat r ++ (gR c2 sa S.toNat q ++ (gB c1 r L.toNat 2 (fL K (mix (turnD Dm L) Dm ((0 : Int)))) ++ (gB c1 q S.toNat 4 (fS lo hi su db) ++ ([]))))))) (lv' := [(0, .ref o), (1, .int (zI L)), (2, .ref q1_), (3, .int (zI (zc (fun j => decide (turn Dm L j ≠ 0)) 0 L))), (4, .int (zI (((0 : Int)))))]) ?_ (by rw [mix_0]) (by rfl) rfl
    refine J.widen (k := 1) (n := L.toNat) (by omega) (by omega) ?_
    refine j_loop (X := Unit) (fun (i : Int) x9 => gA c1 q1_ L.toNat (mix (turnD Dm L) (fun _ => 0) L) ++ (gO o la sa dy li so sp ++ (gR c2 la L.toNat r ++ (gR c2 sa S.toNat q ++ (gB c1 r L.toNat 2 (fL K (mix (turnD Dm L) Dm i)) ++ (gB c1 q S.toNat 4 (fS lo hi su db) ++ ([]))))))) (fun (i : Int) x9 => [(0, .ref o), (1, .int (zI L)), (2, .ref q1_), (3, .int (zI (zc (fun j => decide (turn Dm L j ≠ 0)) 0 L))), (4, .int (zI i))]) (fun (i : Int) x9 => True) (fun (i : Int) => 1) (fun (i : Int) => L.toNat) (0 : Int) L (by omega) ?_ ?_ () trivial
    · intro i x9 h0_210 h1_210 hI_210 hk_210
      try dsimp only at hI_210 hk_210 ⊢
      refine j_iload (pc := 210) C dX1_pass_210 4 rfl ?_
      refine j_iload_n (pc := 212) C dX1_pass_212 1 rfl ?_
      refine j_icmp_ge (pc := 213) C 235 dX1_pass_213 (by decide) ⟨by omega, by omega⟩ ⟨by omega, by omega⟩ (fun c_213 => absurd c_213 (by omega)) (fun c_213 => ?_)
      refine j_aload_n (pc := 216) C dX1_pass_216 0 rfl ?_
      refine j_get (pc := 217) C (ref := "GrainSiloLaw$Sim") (T := TX1) (N := 6) hin _ (At.r (At.l (k := 0) rfl)) rfl 4 (by decide) (C.w 1 rfl) rfl rfl dX1_pass_217 ?_
      refine j_iload (pc := 220) C dX1_pass_220 4 rfl ?_
      refine j_aald (pc := 222) C _ 1 (g := r) (At.r (At.r (At.l (k := 0) rfl))) rfl (by omega) (by omega) (by omega) dX1_pass_222 ?_
      refine j_iconst (pc := 223) C dX1_pass_223 ?_
      refine j_aload_n (pc := 224) C dX1_pass_224 2 rfl ?_
      refine j_iload (pc := 225) C dX1_pass_225 4 rfl ?_
      refine j_iald (pc := 227) C _ 0 (At.l (k := 0) rfl) rfl (by omega) (by omega) (by omega) dX1_pass_227 ?_
      refine j_iast (pc := 228) C _ 0 (At.r (At.r (At.r (At.r (At.l (gB_at (by omega) (by omega))))))) rfl (by omega) (by omega) (by omega) (ws' := gA c1 q1_ L.toNat (mix (turnD Dm L) (fun _ => 0) L) ++ (gO o la sa dy li so sp ++ (gR c2 la L.toNat r ++ (gR c2 sa S.toNat q ++ (gB c1 r L.toNat 2 (upR (fL K (mix (turnD Dm L) Dm i)) i (upZ ((fL K (mix (turnD Dm L) Dm i)) i) 1 ((mix (turnD Dm L) (fun _ => 0) L) i))) ++ (gB c1 q S.toNat 4 (fS lo hi su db) ++ ([]))))))) (Pu.r (Pu.r (Pu.r (Pu.r (Pu.l (gB_at (by omega) (by omega)) (gB_set (by omega) (by omega) _)))))) dX1_pass_228 ?_
      refine J.perm (ws' := gB c1 r L.toNat 2 (upR (fL K (mix (turnD Dm L) Dm i)) i (upZ ((fL K (mix (turnD Dm L) Dm i)) i) 1 ((mix (turnD Dm L) (fun _ => 0) L) i))) ++ (gA c1 q1_ L.toNat (mix (turnD Dm L) (fun _ => 0) L) ++ (gO o la sa dy li so sp ++ (gR c2 la L.toNat r ++ (gR c2 sa S.toNat q ++ (gB c1 q S.toNat 4 (fS lo hi su db) ++ ([]))))))) (perm_of_count (fun cnt h1_ h0_ => by simp only [wU, wS, wGS, h1_, h0_] <;> omega)) ?_
      refine J.rows (G := fL K (upZ (mix (turnD Dm L) Dm i) i ((mix (turnD Dm L) (fun _ => 0) L) i))) (fun j9 _ => fL_set1 K (mix (turnD Dm L) Dm i) i ((mix (turnD Dm L) (fun _ => 0) L) i) j9) ?_
      refine J.perm (ws' := gA c1 q1_ L.toNat (mix (turnD Dm L) (fun _ => 0) L) ++ (gO o la sa dy li so sp ++ (gR c2 la L.toNat r ++ (gR c2 sa S.toNat q ++ (gB c1 r L.toNat 2 (fL K (upZ (mix (turnD Dm L) Dm i) i ((mix (turnD Dm L) (fun _ => 0) L) i))) ++ (gB c1 q S.toNat 4 (fS lo hi su db) ++ ([]))))))) (perm_of_count (fun cnt h1_ h0_ => by simp only [wU, wS, wGS, h1_, h0_] <;> omega)) ?_
      refine j_iinc (pc := 229) C (x := i) (lv' := [(0, .ref o), (1, .int (zI L)), (2, .ref q1_), (3, .int (zI (zc (fun j => decide (turn Dm L j ≠ 0)) 0 L))), (4, .int (zI (i + 1)))]) dX1_pass_229 4 rfl (by decide) [1, 2, 3, 4, 0] rfl ?_
      refine j_goto (pc := 232) C 210 dX1_pass_232 (by decide) ?_
      exact J.widen (by omega) (by omega) (J.cast (hk_210 () trivial) (by rw [mix_up _ Dm i h0_210, mix_lt _ _ _ _ h0_210 h1_210]) (by rfl) rfl)
    · intro x9 hI_210
      try dsimp only at hI_210 ⊢
      refine j_iload (pc := 210) C dX1_pass_210 4 rfl ?_
      refine j_iload_n (pc := 212) C dX1_pass_212 1 rfl ?_
      refine j_icmp_ge (pc := 213) C 235 dX1_pass_213 (by decide) ⟨by omega, by omega⟩ ⟨by omega, by omega⟩ (fun c_213 => ?_) (fun c_213 => absurd c_213 (by omega))
      refine j_aload_n (pc := 235) C dX1_pass_235 0 rfl ?_
      refine j_get (pc := 236) C (ref := "GrainSiloLaw$Sim") (T := TX1) (N := 6) hin _ (At.r (At.l (k := 0) rfl)) rfl 5 (by decide) (C.w 3 rfl) rfl rfl dX1_pass_236 ?_
      refine j_astore (pc := 239) C (lv' := [(0, .ref o), (1, .int (zI L)), (2, .ref q1_), (3, .int (zI (zc (fun j => decide (turn Dm L j ≠ 0)) 0 L))), (4, .ref sa)]) dX1_pass_239 (by decide) [1, 2, 3, 4, 0] rfl ?_
      refine j_aload (pc := 241) C dX1_pass_241 4 rfl ?_
      refine j_alen (pc := 243) C _ 1 (At.r (At.r (At.r (At.l (k := 0) rfl)))) rfl (z := S) (alen_eq (by omega) (by omega)) dX1_pass_243 ?_
      refine j_istore (pc := 244) C (lv' := [(0, .ref o), (1, .int (zI L)), (2, .ref q1_), (3, .int (zI (zc (fun j => decide (turn Dm L j ≠ 0)) 0 L))), (4, .ref sa), (5, .int (zI S))]) dX1_pass_244 (by decide) [1, 2, 3, 4, 5, 0] rfl ?_
      refine j_iconst (pc := 246) C dX1_pass_246 ?_
      refine j_istore (pc := 247) C (lv' := [(0, .ref o), (1, .int (zI L)), (2, .ref q1_), (3, .int (zI (zc (fun j => decide (turn Dm L j ≠ 0)) 0 L))), (4, .ref sa), (5, .int (zI S)), (6, .int (zI 0))]) dX1_pass_247 (by decide) [1, 2, 3, 4, 5, 6, 0] rfl ?_
      refine J.pick (lv' := [(0, .ref o), (3, .int (zI (zc (fun j => decide (turn Dm L j ≠ 0)) 0 L))), (4, .ref sa), (5, .int (zI S)), (6, .int (zI 0))]) [0, 3, 4, 5, 6] rfl ?_
      refine J.cast (ws' := gA c1 q1_ L.toNat (mix (turnD Dm L) (fun _ => 0) L) ++ (gO o la sa dy li so sp ++ (gR c2 la L.toNat r ++ (gR c2 sa S.toNat q ++ (gB c1 r L.toNat 2 (fL K (mix (turnD Dm L) Dm L)) ++ (gB c1 q S.toNat 4 (fS lo hi su (mix (fun j => db j + (hi j - lo j + 1)) db ((0 : Int)))) ++ ([]))))))) (lv' := [(0, .ref o), (3, .int (zI (zc (fun j => decide (turn Dm L j ≠ 0)) 0 L))), (4, .ref sa), (5, .int (zI S)), (6, .int (zI (((0 : Int)))))]) ?_ (by rw [mix_0]) (by rfl) rfl
      refine J.widen (k := 1) (n := L.toNat) (by omega) (by omega) ?_
      refine j_loop (X := Unit) (fun (i : Int) x9 => gA c1 q1_ L.toNat (mix (turnD Dm L) (fun _ => 0) L) ++ (gO o la sa dy li so sp ++ (gR c2 la L.toNat r ++ (gR c2 sa S.toNat q ++ (gB c1 r L.toNat 2 (fL K (mix (turnD Dm L) Dm L)) ++ (gB c1 q S.toNat 4 (fS lo hi su (mix (fun j => db j + (hi j - lo j + 1)) db i)) ++ ([]))))))) (fun (i : Int) x9 => [(0, .ref o), (3, .int (zI (zc (fun j => decide (turn Dm L j ≠ 0)) 0 L))), (4, .ref sa), (5, .int (zI S)), (6, .int (zI i))]) (fun (i : Int) x9 => True) (fun (i : Int) => 1) (fun (i : Int) => L.toNat) (0 : Int) S (by omega) ?_ ?_ () trivial
      · intro i x9 h0_249 h1_249 hI_249 hk_249
        try dsimp only at hI_249 hk_249 ⊢
        refine j_iload (pc := 249) C dX1_pass_249 4 rfl ?_
        refine j_iload (pc := 251) C dX1_pass_251 3 rfl ?_
        refine j_icmp_ge (pc := 253) C 287 dX1_pass_253 (by decide) ⟨by omega, by omega⟩ ⟨by omega, by omega⟩ (fun c_253 => absurd c_253 (by omega)) (fun c_253 => ?_)
        refine j_aload (pc := 256) C dX1_pass_256 2 rfl ?_
        refine j_iload (pc := 258) C dX1_pass_258 4 rfl ?_
        refine j_aald (pc := 260) C _ 1 (g := q) (At.r (At.r (At.r (At.l (k := 0) rfl)))) rfl (by omega) (by omega) (by omega) dX1_pass_260 ?_
        refine j_astore (pc := 261) C (lv' := [(0, .ref o), (3, .int (zI (zc (fun j => decide (turn Dm L j ≠ 0)) 0 L))), (4, .ref sa), (5, .int (zI S)), (6, .int (zI i)), (7, .ref (q i.toNat))]) dX1_pass_261 (by decide) [1, 2, 3, 4, 5, 0] rfl ?_
        refine j_aload (pc := 263) C dX1_pass_263 5 rfl ?_
        refine j_iconst (pc := 265) C dX1_pass_265 ?_
        refine j_dup2 (pc := 266) C dX1_pass_266 rfl rfl ?_
        refine j_iald (pc := 267) C _ 0 (At.r (At.r (At.r (At.r (At.r (At.l (gB_at (by omega) (by omega)))))))) rfl (by omega) (by omega) (by omega) dX1_pass_267 ?_
        refine J.cast (ws' := gA c1 q1_ L.toNat (mix (turnD Dm L) (fun _ => 0) L) ++ (gO o la sa dy li so sp ++ (gR c2 la L.toNat r ++ (gR c2 sa S.toNat q ++ (gB c1 r L.toNat 2 (fL K (mix (turnD Dm L) Dm L)) ++ (gB c1 q S.toNat 4 (fS lo hi su (mix (fun j => db j + (hi j - lo j + 1)) db i)) ++ ([]))))))) (lv' := [(0, .ref o), (3, .int (zI (zc (fun j => decide (turn Dm L j ≠ 0)) 0 L))), (4, .ref sa), (5, .int (zI S)), (6, .int (zI i)), (7, .ref (q i.toNat))]) (st' := [.int (zI ((mix (fun j => db j + (hi j - lo j + 1)) db i) i)), .int (zI 3), .ref (q i.toNat)]) ?_ rfl rfl rfl
        refine j_aload (pc := 268) C dX1_pass_268 5 rfl ?_
        refine j_iconst (pc := 270) C dX1_pass_270 ?_
        refine j_iald (pc := 271) C _ 0 (At.r (At.r (At.r (At.r (At.r (At.l (gB_at (by omega) (by omega)))))))) rfl (by omega) (by omega) (by omega) dX1_pass_271 ?_
        refine J.cast (ws' := gA c1 q1_ L.toNat (mix (turnD Dm L) (fun _ => 0) L) ++ (gO o la sa dy li so sp ++ (gR c2 la L.toNat r ++ (gR c2 sa S.toNat q ++ (gB c1 r L.toNat 2 (fL K (mix (turnD Dm L) Dm L)) ++ (gB c1 q S.toNat 4 (fS lo hi su (mix (fun j => db j + (hi j - lo j + 1)) db i)) ++ ([]))))))) (lv' := [(0, .ref o), (3, .int (zI (zc (fun j => decide (turn Dm L j ≠ 0)) 0 L))), (4, .ref sa), (5, .int (zI S)), (6, .int (zI i)), (7, .ref (q i.toNat))]) (st' := [.int (zI (hi i)), .int (zI ((mix (fun j => db j + (hi j - lo j + 1)) db i) i)), .int (zI 3), .ref (q i.toNat)]) ?_ rfl rfl rfl
        refine j_aload (pc := 272) C dX1_pass_272 5 rfl ?_
        refine j_iconst (pc := 274) C dX1_pass_274 ?_
        refine j_iald (pc := 275) C _ 0 (At.r (At.r (At.r (At.r (At.r (At.l (gB_at (by omega) (by omega)))))))) rfl (by omega) (by omega) (by omega) dX1_pass_275 ?_
        refine J.cast (ws' := gA c1 q1_ L.toNat (mix (turnD Dm L) (fun _ => 0) L) ++ (gO o la sa dy li so sp ++ (gR c2 la L.toNat r ++ (gR c2 sa S.toNat q ++ (gB c1 r L.toNat 2 (fL K (mix (turnD Dm L) Dm L)) ++ (gB c1 q S.toNat 4 (fS lo hi su (mix (fun j => db j + (hi j - lo j + 1)) db i)) ++ ([]))))))) (lv' := [(0, .ref o), (3, .int (zI (zc (fun j => decide (turn Dm L j ≠ 0)) 0 L))), (4, .ref sa), (5, .int (zI S)), (6, .int (zI i)), (7, .ref (q i.toNat))]) (st' := [.int (zI (lo i)), .int (zI (hi i)), .int (zI ((mix (fun j => db j + (hi j - lo j + 1)) db i) i)), .int (zI 3), .ref (q i.toNat)]) ?_ rfl rfl rfl
        refine j_isub (pc := 276) C dX1_pass_276 ?_
        refine j_iconst (pc := 277) C dX1_pass_277 ?_
        refine j_iadd (pc := 278) C dX1_pass_278 ?_
        refine j_iadd (pc := 279) C dX1_pass_279 ?_
        refine j_iast (pc := 280) C _ 0 (At.r (At.r (At.r (At.r (At.r (At.l (gB_at (by omega) (by omega)))))))) rfl (by omega) (by omega) (by omega) (ws' := gA c1 q1_ L.toNat (mix (turnD Dm L) (fun _ => 0) L) ++ (gO o la sa dy li so sp ++ (gR c2 la L.toNat r ++ (gR c2 sa S.toNat q ++ (gB c1 r L.toNat 2 (fL K (mix (turnD Dm L) Dm L)) ++ (gB c1 q S.toNat 4 (upR (fS lo hi su (mix (fun j => db j + (hi j - lo j + 1)) db i)) i (upZ ((fS lo hi su (mix (fun j => db j + (hi j - lo j + 1)) db i)) i) 3 (((mix (fun j => db j + (hi j - lo j + 1)) db i) i) + (((hi i) - (lo i)) + 1)))) ++ ([]))))))) (Pu.r (Pu.r (Pu.r (Pu.r (Pu.r (Pu.l (gB_at (by omega) (by omega)) (gB_set (by omega) (by omega) _))))))) dX1_pass_280 ?_
        refine J.perm (ws' := gB c1 q S.toNat 4 (upR (fS lo hi su (mix (fun j => db j + (hi j - lo j + 1)) db i)) i (upZ ((fS lo hi su (mix (fun j => db j + (hi j - lo j + 1)) db i)) i) 3 (((mix (fun j => db j + (hi j - lo j + 1)) db i) i) + (((hi i) - (lo i)) + 1)))) ++ (gA c1 q1_ L.toNat (mix (turnD Dm L) (fun _ => 0) L) ++ (gO o la sa dy li so sp ++ (gR c2 la L.toNat r ++ (gR c2 sa S.toNat q ++ (gB c1 r L.toNat 2 (fL K (mix (turnD Dm L) Dm L)) ++ ([]))))))) (perm_of_count (fun cnt h1_ h0_ => by simp only [wU, wS, wGS, h1_, h0_] <;> omega)) ?_
        refine J.rows (G := fS lo hi su (upZ (mix (fun j => db j + (hi j - lo j + 1)) db i) i (((mix (fun j => db j + (hi j - lo j + 1)) db i) i) + (((hi i) - (lo i)) + 1)))) (fun j9 _ => fS_set3 lo hi su (mix (fun j => db j + (hi j - lo j + 1)) db i) i (((mix (fun j => db j + (hi j - lo j + 1)) db i) i) + (((hi i) - (lo i)) + 1)) j9) ?_
        refine J.perm (ws' := gA c1 q1_ L.toNat (mix (turnD Dm L) (fun _ => 0) L) ++ (gO o la sa dy li so sp ++ (gR c2 la L.toNat r ++ (gR c2 sa S.toNat q ++ (gB c1 r L.toNat 2 (fL K (mix (turnD Dm L) Dm L)) ++ (gB c1 q S.toNat 4 (fS lo hi su (upZ (mix (fun j => db j + (hi j - lo j + 1)) db i) i (((mix (fun j => db j + (hi j - lo j + 1)) db i) i) + (((hi i) - (lo i)) + 1)))) ++ ([]))))))) (perm_of_count (fun cnt h1_ h0_ => by simp only [wU, wS, wGS, h1_, h0_] <;> omega)) ?_
        refine j_iinc (pc := 281) C (x := i) (lv' := [(0, .ref o), (3, .int (zI (zc (fun j => decide (turn Dm L j ≠ 0)) 0 L))), (4, .ref sa), (5, .int (zI S)), (6, .int (zI (i + 1))), (7, .ref (q i.toNat))]) dX1_pass_281 4 rfl (by decide) [1, 2, 3, 4, 0, 5] rfl ?_
        refine j_goto (pc := 284) C 249 dX1_pass_284 (by decide) ?_
        refine J.pick (lv' := [(0, .ref o), (3, .int (zI (zc (fun j => decide (turn Dm L j ≠ 0)) 0 L))), (4, .ref sa), (5, .int (zI S)), (6, .int (zI (i + 1)))]) [0, 1, 2, 3, 4] rfl ?_
        exact J.widen (by omega) (by omega) (J.cast (hk_249 () trivial) (by rw [mix_up _ db i h0_249, mix_ge _ db i i (Int.le_refl _)]) (by rfl) rfl)
      · intro x9 hI_249
        try dsimp only at hI_249 ⊢
        refine j_iload (pc := 249) C dX1_pass_249 4 rfl ?_
        refine j_iload (pc := 251) C dX1_pass_251 3 rfl ?_
        refine j_icmp_ge (pc := 253) C 287 dX1_pass_253 (by decide) ⟨by omega, by omega⟩ ⟨by omega, by omega⟩ (fun c_253 => ?_) (fun c_253 => absurd c_253 (by omega))
        refine j_aload_n (pc := 287) C dX1_pass_287 0 rfl ?_
        refine j_dup (pc := 288) C dX1_pass_288 rfl ?_
        refine j_get (pc := 289) C (ref := "GrainSiloLaw$Sim") (T := TX1) (N := 6) hin _ (At.r (At.l (k := 0) rfl)) rfl 0 (by decide) (C.w 4 rfl) rfl rfl dX1_pass_289 ?_
        refine j_iconst (pc := 292) C dX1_pass_292 ?_
        refine j_iadd (pc := 293) C dX1_pass_293 ?_
        refine j_put (pc := 294) C (ref := "GrainSiloLaw$Sim") (T := TX1) (N := 6) (ws' := gA c1 q1_ L.toNat (mix (turnD Dm L) (fun _ => 0) L) ++ (gO o la sa (dy + 1) li so sp ++ (gR c2 la L.toNat r ++ (gR c2 sa S.toNat q ++ (gB c1 r L.toNat 2 (fL K (mix (turnD Dm L) Dm L)) ++ (gB c1 q S.toNat 4 (fS lo hi su (mix (fun j => db j + (hi j - lo j + 1)) db S)) ++ ([]))))))) hin tyX1 tyX1_ok nmX1 _ (At.r (At.l (k := 0) rfl)) rfl 0 (by decide) (C.w 4 rfl) rfl rfl (by decide +kernel) (Nat.le_of_ble_eq_true rfl) (Pu.r (Pu.l (k := 0) (hk := rfl) rfl)) dX1_pass_294 ?_
        refine j_iload_n (pc := 297) C dX1_pass_297 1 rfl ?_
        refine J.sub (ws' := wS c1 c2 o la sa r q (dy + 1) li so sp L K (mix (turnD Dm L) Dm L) S lo hi su (mix (fun j => db j + (hi j - lo j + 1)) db S)) (rest := gA c1 q1_ L.toNat (mix (turnD Dm L) (fun _ => 0) L)) (perm_of_count (fun cnt h1_ h0_ => by simp only [wU, wS, wGS, h1_, h0_] <;> omega)) ?_
        exact j_iretE (pc := 298) C hr dX1_pass_298 () trivial (by rfl) (by rfl) (by omega) (by omega)
