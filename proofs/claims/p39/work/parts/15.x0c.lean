/-! ===== GrainSilo: what could be ===== -/
set_option maxHeartbeats 4000000 in
set_option maxRecDepth 100000 in
theorem kX0_weighSamples (l : Launch) (D : va_G) (h : Nat → Nat) (c1 c2 c3 : ClassId) (K Dm : Int → Int) (L : Int) (lo hi su db : Int → Int) (S dy li so sp : Int) (tu ah : Int → Int) (M : Int → Int → Int) (hok : okS Dm L lo hi su db S) : cV l yX0_weighSamples wsX0_weighSamples ({ frames := 2, cells := 0, slots := 0, locals := 46 }) D (tyS c1 c2 c3) [.ref (h 0)] (wG h c1 c2 K Dm L lo hi su db S dy li so sp tu ah M) (wG h c1 c2 K Dm L lo hi su db S dy li so sp tu ah (wg L lo hi su db M S)) 0 0 := by
  refine cV.of (cc := cX0_weighSamples) (maxL := 4) (by decide) rfl (lv := [(0, .ref (h 0))]) [0] rfl (Nat.le_of_ble_eq_true rfl) ?_
  intro p e s m args below meth c A C hr
  have C : GC p s m args meth c cX0_weighSamples 4 RX0 wsX0_weighSamples D (tyS c1 c2 c3) A := C
  have hin : ∀ w ∈ wsX00, w ∈ wsX0_weighSamples := fun _ h => List.mem_cons_of_mem _ (List.mem_append_right _ h)
  obtain ⟨⟨hL0, hL⟩, ⟨hS0, hS⟩, hf, hs⟩ := id hok
  refine j_aload_n (pc := 0) C dX0_weighSamples_0 0 rfl ?_
  refine j_callV (pc := 1) C (As := []) (rest := []) (kX0_weighNothing l D h c1 c2 c3 K Dm L lo hi su db S dy li so sp tu ah M  (by omega) (by omega)) (cwV 0 C.2.2.2.2.1 gX0_weighSamples_X0_weighNothing rfl rfl rfl (by decide +kernel) ⟨Nat.le_of_ble_eq_true rfl, Nat.le_of_ble_eq_true rfl⟩) 0 (ci := 0) rfl rfl rfl dX0_weighSamples_1 rfl rfl (Nat.le_of_ble_eq_true rfl) (by decide) ?_
  refine j_iconst (pc := 4) C dX0_weighSamples_4 ?_
  refine j_istore_n (pc := 5) C (lv' := [(0, .ref (h 0)), (1, .int (zI 0))]) dX0_weighSamples_5 (by decide) [1, 0] rfl ?_
  refine J.cast (ws' := wG h c1 c2 K Dm L lo hi su db S dy li so sp tu ah (wg L lo hi su db M 0)) (lv' := [(0, .ref (h 0)), (1, .int (zI 0))]) ?_ (by rfl) (by rfl) rfl
  refine j_up (fun i : Int => wG h c1 c2 K Dm L lo hi su db S dy li so sp tu ah (wg L lo hi su db M i)) (fun i : Int => [(0, .ref (h 0)), (1, .int (zI i))]) (fun i : Int => True) 0 S (by omega) trivial ?_ ?_
  · intro i h0_6 h1_6 hI_6 hk_6
    try dsimp only at hI_6 hk_6 ⊢
    obtain ⟨s1, s2, s3, s4, s5, s6, s7⟩ := hs i h0_6 h1_6
    have e := zs_cat Dm 0 (lo i) (hi i + 1) s1 (by omega)
    have b1 := zs_bnd hf (lo i) (hi i + 1) s1 (by omega) (by omega)
    have w1 := wg_ok hok M i h0_6 (by omega)
    have w2 := Wok_hd w1 (lo i) (hi i + 1) (su i + db i) s1 (by omega) (by omega) (by omega) (by omega)
    refine j_iload_n (pc := 6) C dX0_weighSamples_6 1 rfl ?_
    refine j_aload_n (pc := 7) C dX0_weighSamples_7 0 rfl ?_
    refine j_get (pc := 8) C (ref := "GrainSilo") (T := TX0) (N := 15) hin 0 rfl rfl 7 (by decide) (C.w 1 rfl) rfl rfl dX0_weighSamples_8 ?_
    refine j_icmp_ge (pc := 11) C 74 dX0_weighSamples_11 (by decide) ⟨by omega, by omega⟩ ⟨by omega, by omega⟩ (fun c_11 => absurd c_11 (by omega)) (fun c_11 => ?_)
    refine j_aload_n (pc := 14) C dX0_weighSamples_14 0 rfl ?_
    refine j_get (pc := 15) C (ref := "GrainSilo") (T := TX0) (N := 15) hin 0 rfl rfl 3 (by decide) (C.w 2 rfl) rfl rfl dX0_weighSamples_15 ?_
    refine j_iload_n (pc := 18) C dX0_weighSamples_18 1 rfl ?_
    refine j_iald (pc := 19) C 3 0 rfl rfl (by omega) (by omega) (by decide) dX0_weighSamples_19 ?_
    refine j_istore_n (pc := 20) C (lv' := [(0, .ref (h 0)), (1, .int (zI i)), (2, .int (zI (lo i)))]) dX0_weighSamples_20 (by decide) [1, 2, 0] rfl ?_
    refine j_aload_n (pc := 21) C dX0_weighSamples_21 0 rfl ?_
    refine j_get (pc := 22) C (ref := "GrainSilo") (T := TX0) (N := 15) hin 0 rfl rfl 4 (by decide) (C.w 3 rfl) rfl rfl dX0_weighSamples_22 ?_
    refine j_iload_n (pc := 25) C dX0_weighSamples_25 1 rfl ?_
    refine j_iald (pc := 26) C 4 0 rfl rfl (by omega) (by omega) (by decide) dX0_weighSamples_26 ?_
    refine j_iconst (pc := 27) C dX0_weighSamples_27 ?_
    refine j_iadd (pc := 28) C dX0_weighSamples_28 ?_
    refine j_istore_n (pc := 29) C (lv' := [(0, .ref (h 0)), (1, .int (zI i)), (2, .int (zI (lo i))), (3, .int (zI ((hi i) + 1)))]) dX0_weighSamples_29 (by decide) [1, 2, 3, 0] rfl ?_
    refine j_aload_n (pc := 30) C dX0_weighSamples_30 0 rfl ?_
    refine j_iload_n (pc := 31) C dX0_weighSamples_31 2 rfl ?_
    refine j_iload_n (pc := 32) C dX0_weighSamples_32 3 rfl ?_
    refine j_aload_n (pc := 33) C dX0_weighSamples_33 0 rfl ?_
    refine j_get (pc := 34) C (ref := "GrainSilo") (T := TX0) (N := 15) hin 0 rfl rfl 5 (by decide) (C.w 4 rfl) rfl rfl dX0_weighSamples_34 ?_
    refine j_iload_n (pc := 37) C dX0_weighSamples_37 1 rfl ?_
    refine j_iald (pc := 38) C 5 0 rfl rfl (by omega) (by omega) (by decide) dX0_weighSamples_38 ?_
    refine j_aload_n (pc := 39) C dX0_weighSamples_39 0 rfl ?_
    refine j_get (pc := 40) C (ref := "GrainSilo") (T := TX0) (N := 15) hin 0 rfl rfl 6 (by decide) (C.w 5 rfl) rfl rfl dX0_weighSamples_40 ?_
    refine j_iload_n (pc := 43) C dX0_weighSamples_43 1 rfl ?_
    refine j_iald (pc := 44) C 6 0 rfl rfl (by omega) (by omega) (by decide) dX0_weighSamples_44 ?_
    refine j_iadd (pc := 45) C dX0_weighSamples_45 ?_
    refine j_callV (pc := 46) C (As := [.int (zI (lo i)), .int (zI ((hi i) + 1)), .int (zI ((su i) + (db i)))]) (rest := []) (kX0_heed l D h c1 c2 c3 K Dm L lo hi su db S dy li so sp tu ah (wg L lo hi su db M i) (lo i) ((hi i) + 1) ((su i) + (db i)) (by omega) (by omega) (by omega) (by omega) (by omega) (by omega) (by omega) (by omega) (Wok_B hL hf w1) (Wok_T w1 _ _ (by omega) (by omega) (by omega) (by omega)) (Wok_N w1 _ _ _ (by omega) (by omega) (by omega) (by omega) (by omega))) (cwV 3 C.2.2.2.2.1 gX0_weighSamples_X0_heed rfl rfl rfl (by decide +kernel) ⟨Nat.le_of_ble_eq_true rfl, Nat.le_of_ble_eq_true rfl⟩) 0 (ci := 0) rfl rfl rfl dX0_weighSamples_46 rfl rfl (Nat.le_of_ble_eq_true rfl) (by decide) ?_
    refine j_aload_n (pc := 49) C dX0_weighSamples_49 0 rfl ?_
    refine j_iload_n (pc := 50) C dX0_weighSamples_50 3 rfl ?_
    refine j_iload_n (pc := 51) C dX0_weighSamples_51 2 rfl ?_
    refine j_aload_n (pc := 52) C dX0_weighSamples_52 0 rfl ?_
    refine j_get (pc := 53) C (ref := "GrainSilo") (T := TX0) (N := 15) hin 0 rfl rfl 6 (by decide) (C.w 5 rfl) rfl rfl dX0_weighSamples_53 ?_
    refine j_iload_n (pc := 56) C dX0_weighSamples_56 1 rfl ?_
    refine j_iald (pc := 57) C 6 0 rfl rfl (by omega) (by omega) (by decide) dX0_weighSamples_57 ?_
    refine j_aload_n (pc := 58) C dX0_weighSamples_58 0 rfl ?_
    refine j_get (pc := 59) C (ref := "GrainSilo") (T := TX0) (N := 15) hin 0 rfl rfl 5 (by decide) (C.w 4 rfl) rfl rfl dX0_weighSamples_59 ?_
    refine j_iload_n (pc := 62) C dX0_weighSamples_62 1 rfl ?_
    refine j_iald (pc := 63) C 5 0 rfl rfl (by omega) (by omega) (by decide) dX0_weighSamples_63 ?_
    refine j_isub (pc := 64) C dX0_weighSamples_64 ?_
    refine j_callV (pc := 65) C (As := [.int (zI ((hi i) + 1)), .int (zI (lo i)), .int (zI ((db i) - (su i)))]) (rest := []) (kX0_heed l D h c1 c2 c3 K Dm L lo hi su db S dy li so sp tu ah (hdM (wg L lo hi su db M i) L (lo i) ((hi i) + 1) ((su i) + (db i))) ((hi i) + 1) (lo i) ((db i) - (su i)) (by omega) (by omega) (by omega) (by omega) (by omega) (by omega) (by omega) (by omega) (Wok_B hL hf w2) (Wok_T w2 _ _ (by omega) (by omega) (by omega) (by omega)) (Wok_N w2 _ _ _ (by omega) (by omega) (by omega) (by omega) (by omega))) (cwV 3 C.2.2.2.2.1 gX0_weighSamples_X0_heed rfl rfl rfl (by decide +kernel) ⟨Nat.le_of_ble_eq_true rfl, Nat.le_of_ble_eq_true rfl⟩) 0 (ci := 0) rfl rfl rfl dX0_weighSamples_65 rfl rfl (Nat.le_of_ble_eq_true rfl) (by decide) ?_
    refine j_iinc (pc := 68) C (lv' := [(0, .ref (h 0)), (1, .int (zI (i + 1))), (2, .int (zI (lo i))), (3, .int (zI ((hi i) + 1)))]) dX0_weighSamples_68 1 rfl (by decide) [1, 0, 2, 3] rfl ?_
    refine j_goto (pc := 71) C 6 dX0_weighSamples_71 (by decide) ?_
    refine J.pick (lv' := [(0, .ref (h 0)), (1, .int (zI (i + 1)))]) [0, 1] rfl ?_
    exact J.cast (hk_6 trivial) (by rw [wg_up _ _ _ _ _ _ _ h0_6]) (by rfl) rfl
  · intro hI_6
    try dsimp only at hI_6 ⊢
    refine j_iload_n (pc := 6) C dX0_weighSamples_6 1 rfl ?_
    refine j_aload_n (pc := 7) C dX0_weighSamples_7 0 rfl ?_
    refine j_get (pc := 8) C (ref := "GrainSilo") (T := TX0) (N := 15) hin 0 rfl rfl 7 (by decide) (C.w 1 rfl) rfl rfl dX0_weighSamples_8 ?_
    refine j_icmp_ge (pc := 11) C 74 dX0_weighSamples_11 (by decide) ⟨by omega, by omega⟩ ⟨by omega, by omega⟩ (fun c_11 => ?_) (fun c_11 => absurd c_11 (by omega))
    exact j_vret (pc := 74) C hr dX0_weighSamples_74 (by rfl) (by decide) (by decide)
set_option maxHeartbeats 4000000 in
set_option maxRecDepth 100000 in
theorem kX0_least (l : Launch) (D : va_G) (h : Nat → Nat) (c1 c2 c3 : ClassId) (K Dm : Int → Int) (L : Int) (lo hi su db : Int → Int) (S dy li so sp : Int) (tu ah : Int → Int) (M : Int → Int → Int) (a b : Int) (h0 : 0 ≤ a) (h1 : a < 13) (h2 : -1 ≤ b) (h3 : b < 12) : cI l yX0_least wsX0_least ({ frames := 0, cells := 0, slots := 0, locals := 0 }) D (tyS c1 c2 c3) [.ref (h 0), .int (zI a), .int (zI b)] (wG h c1 c2 K Dm L lo hi su db S dy li so sp tu ah M) (wG h c1 c2 K Dm L lo hi su db S dy li so sp tu ah M) (zI (-(M (b + 1) a))) 0 0 := by
  refine cI.of (cc := cX0_least) (maxL := 3) (ret := .int) (by decide) rfl (lv := [(0, .ref (h 0)), (1, .int (zI a)), (2, .int (zI b))]) [0, 1, 2] rfl (Nat.le_of_ble_eq_true rfl) ?_
  intro p e s m args below meth c A C hr
  have C : GC p s m args meth c cX0_least 3 RX0 wsX0_least D (tyS c1 c2 c3) A := C
  have hin : ∀ w ∈ wsX00, w ∈ wsX0_least := fun _ h => List.mem_cons_of_mem _ (List.mem_append_right _ h)
  refine j_aload_n (pc := 0) C dX0_least_0 0 rfl ?_
  refine j_get (pc := 1) C (ref := "GrainSilo") (T := TX0) (N := 15) hin 0 rfl rfl 14 (by decide) (C.w 1 rfl) rfl rfl dX0_least_1 ?_
  refine j_iload_n (pc := 4) C dX0_least_4 2 rfl ?_
  refine j_iconst (pc := 5) C dX0_least_5 ?_
  refine j_iadd (pc := 6) C dX0_least_6 ?_
  refine j_aald (pc := 7) C 9 1 (g := fun j => h (10 + j)) rfl rfl (by omega) (by omega) (by decide) dX0_least_7 ?_
  refine j_iload_n (pc := 8) C dX0_least_8 1 rfl ?_
  refine j_iald (pc := 9) C (10 + (b + 1).toNat) 0 (wG_row h c1 c2 K Dm L lo hi su db S dy li so sp tu ah M (b + 1) (by omega) (by omega)) rfl (by omega) (by omega) (by decide) dX0_least_9 ?_
  refine j_ineg (pc := 10) C dX0_least_10 ?_
  exact j_iret (pc := 11) C hr dX0_least_11 (by rfl) (by rfl) (by decide) (by decide)
set_option maxHeartbeats 4000000 in
set_option maxRecDepth 100000 in
theorem kX0_greatest (l : Launch) (D : va_G) (h : Nat → Nat) (c1 c2 c3 : ClassId) (K Dm : Int → Int) (L : Int) (lo hi su db : Int → Int) (S dy li so sp : Int) (tu ah : Int → Int) (M : Int → Int → Int) (a b : Int) (h0 : 0 ≤ a) (h1 : a < 13) (h2 : -1 ≤ b) (h3 : b < 12) : cI l yX0_greatest wsX0_greatest ({ frames := 0, cells := 0, slots := 0, locals := 0 }) D (tyS c1 c2 c3) [.ref (h 0), .int (zI a), .int (zI b)] (wG h c1 c2 K Dm L lo hi su db S dy li so sp tu ah M) (wG h c1 c2 K Dm L lo hi su db S dy li so sp tu ah M) (zI (M a (b + 1))) 0 0 := by
  refine cI.of (cc := cX0_greatest) (maxL := 3) (ret := .int) (by decide) rfl (lv := [(0, .ref (h 0)), (1, .int (zI a)), (2, .int (zI b))]) [0, 1, 2] rfl (Nat.le_of_ble_eq_true rfl) ?_
  intro p e s m args below meth c A C hr
  have C : GC p s m args meth c cX0_greatest 3 RX0 wsX0_greatest D (tyS c1 c2 c3) A := C
  have hin : ∀ w ∈ wsX00, w ∈ wsX0_greatest := fun _ h => List.mem_cons_of_mem _ (List.mem_append_right _ h)
  refine j_aload_n (pc := 0) C dX0_greatest_0 0 rfl ?_
  refine j_get (pc := 1) C (ref := "GrainSilo") (T := TX0) (N := 15) hin 0 rfl rfl 14 (by decide) (C.w 1 rfl) rfl rfl dX0_greatest_1 ?_
  refine j_iload_n (pc := 4) C dX0_greatest_4 1 rfl ?_
  refine j_aald (pc := 5) C 9 1 (g := fun j => h (10 + j)) rfl rfl (by omega) (by omega) (by decide) dX0_greatest_5 ?_
  refine j_iload_n (pc := 6) C dX0_greatest_6 2 rfl ?_
  refine j_iconst (pc := 7) C dX0_greatest_7 ?_
  refine j_iadd (pc := 8) C dX0_greatest_8 ?_
  refine j_iald (pc := 9) C (10 + (a).toNat) 0 (wG_row h c1 c2 K Dm L lo hi su db S dy li so sp tu ah M a (by omega) (by omega)) rfl (by omega) (by omega) (by decide) dX0_greatest_9 ?_
  exact j_iret (pc := 10) C hr dX0_greatest_10 (by rfl) (by rfl) (by decide) (by decide)
set_option maxHeartbeats 4000000 in
set_option maxRecDepth 100000 in
theorem kX0_countSurelyDry (l : Launch) (D : va_G) (h : Nat → Nat) (c1 c2 c3 : ClassId) (K Dm : Int → Int) (L : Int) (lo hi su db : Int → Int) (S dy li so sp : Int) (tu ah : Int → Int) (M : Int → Int → Int) (hL0 : 0 ≤ L) (hL : L ≤ 12) (hl0 : 0 ≤ li) (hl1 : li ≤ 40) (hB : ∀ x y, 0 ≤ x → x ≤ L → 0 ≤ y → y ≤ L → -480 ≤ M x y ∧ M x y ≤ 480) : cI l yX0_countSurelyDry wsX0_countSurelyDry ({ frames := 1, cells := 0, slots := 0, locals := 22 }) D (tyS c1 c2 c3) [.ref (h 0)] (wG h c1 c2 K Dm L lo hi su db S dy li so sp tu ah M) (wG h c1 c2 K Dm L lo hi su db S dy li so sp tu ah M) (zI (nDry M li L)) 0 0 := by
  refine cI.of (cc := cX0_countSurelyDry) (maxL := 3) (ret := .int) (by decide) rfl (lv := [(0, .ref (h 0))]) [0] rfl (Nat.le_of_ble_eq_true rfl) ?_
  intro p e s m args below meth c A C hr
  have C : GC p s m args meth c cX0_countSurelyDry 3 RX0 wsX0_countSurelyDry D (tyS c1 c2 c3) A := C
  have hin : ∀ w ∈ wsX00, w ∈ wsX0_countSurelyDry := fun _ h => List.mem_cons_of_mem _ (List.mem_append_right _ h)
  refine j_iconst (pc := 0) C dX0_countSurelyDry_0 ?_
  refine j_istore_n (pc := 1) C (lv' := [(0, .ref (h 0)), (1, .int (zI 0))]) dX0_countSurelyDry_1 (by decide) [1, 0] rfl ?_
  refine j_iconst (pc := 2) C dX0_countSurelyDry_2 ?_
  refine j_istore_n (pc := 3) C (lv' := [(0, .ref (h 0)), (1, .int (zI 0)), (2, .int (zI 0))]) dX0_countSurelyDry_3 (by decide) [1, 2, 0] rfl ?_
  refine J.cast (ws' := wG h c1 c2 K Dm L lo hi su db S dy li so sp tu ah M) (lv' := [(0, .ref (h 0)), (1, .int (zI (zc (fun j => decide (M j (j + 1) ≤ li)) 0 0))), (2, .int (zI 0))]) ?_ (by rfl) (by rw [zc_0]) rfl
  refine j_up (fun i : Int => wG h c1 c2 K Dm L lo hi su db S dy li so sp tu ah M) (fun i : Int => [(0, .ref (h 0)), (1, .int (zI (zc (fun j => decide (M j (j + 1) ≤ li)) 0 i))), (2, .int (zI i))]) (fun i : Int => True) 0 L (by omega) trivial ?_ ?_
  · intro i h0_4 h1_4 hI_4 hk_4
    try dsimp only at hI_4 hk_4 ⊢
    have q := hB i (i + 1) (by omega) (by omega) (by omega) (by omega)
    refine j_iload_n (pc := 4) C dX0_countSurelyDry_4 2 rfl ?_
    refine j_aload_n (pc := 5) C dX0_countSurelyDry_5 0 rfl ?_
    refine j_get (pc := 6) C (ref := "GrainSilo") (T := TX0) (N := 15) hin 0 rfl rfl 2 (by decide) (C.w 1 rfl) rfl rfl dX0_countSurelyDry_6 ?_
    refine j_icmp_ge (pc := 9) C 34 dX0_countSurelyDry_9 (by decide) ⟨by omega, by omega⟩ ⟨by omega, by omega⟩ (fun c_9 => absurd c_9 (by omega)) (fun c_9 => ?_)
    refine j_aload_n (pc := 12) C dX0_countSurelyDry_12 0 rfl ?_
    refine j_aload_n (pc := 13) C dX0_countSurelyDry_13 0 rfl ?_
    refine j_iload_n (pc := 14) C dX0_countSurelyDry_14 2 rfl ?_
    refine j_iload_n (pc := 15) C dX0_countSurelyDry_15 2 rfl ?_
    refine j_callI (pc := 16) C (As := [.int (zI i), .int (zI i)]) (rest := [.ref (h 0)]) (kX0_greatest l D h c1 c2 c3 K Dm L lo hi su db S dy li so sp tu ah M i i (by omega) (by omega) (by omega) (by omega)) (cwV 2 C.2.2.2.2.1 gX0_countSurelyDry_X0_greatest rfl rfl rfl (by decide +kernel) ⟨Nat.le_of_ble_eq_true rfl, Nat.le_of_ble_eq_true rfl⟩) 0 (ci := 0) rfl rfl rfl dX0_countSurelyDry_16 rfl rfl (Nat.le_of_ble_eq_true rfl) (by decide) ?_
    refine j_callI (pc := 19) C (As := [.int (zI (M i (i + 1)))]) (rest := []) (kX0_isDamp l D h c1 c2 c3 K Dm L lo hi su db S dy li so sp tu ah M (M i (i + 1)) ⟨by omega, by omega⟩ ⟨by omega, by omega⟩) (cwV 1 C.2.2.2.2.1 gX0_countSurelyDry_X0_isDamp rfl rfl rfl (by decide +kernel) ⟨Nat.le_of_ble_eq_true rfl, Nat.le_of_ble_eq_true rfl⟩) 0 (ci := 0) rfl rfl rfl dX0_countSurelyDry_19 rfl rfl (Nat.le_of_ble_eq_true rfl) (by decide) ?_
    refine j_if_ne (pc := 22) C 28 dX0_countSurelyDry_22 (by decide) ⟨by omega, by omega⟩ (fun c_22 => ?_) (fun c_22 => ?_)
    · skip
      have e2 : ¬ M i (i + 1) ≤ li := by omega
      refine j_iinc (pc := 28) C (lv' := [(0, .ref (h 0)), (1, .int (zI (zc (fun j => decide (M j (j + 1) ≤ li)) 0 i))), (2, .int (zI (i + 1)))]) dX0_countSurelyDry_28 2 rfl (by decide) [1, 2, 0] rfl ?_
      refine j_goto (pc := 31) C 4 dX0_countSurelyDry_31 (by decide) ?_
      exact J.cast (hk_4 trivial) (by rfl) (by first | rw [zc_f (fun j => decide (M j (j + 1) ≤ li)) 0 i h0_4 (decide_eq_false e2)] | rw [zc_t (fun j => decide (M j (j + 1) ≤ li)) 0 i h0_4 (decide_eq_true e2)]) rfl
    · skip
      have e2 : M i (i + 1) ≤ li := by omega
      refine j_iinc (pc := 25) C (lv' := [(0, .ref (h 0)), (1, .int (zI (zc (fun j => decide (M j (j + 1) ≤ li)) 0 i + 1))), (2, .int (zI i))]) dX0_countSurelyDry_25 1 rfl (by decide) [1, 0, 2] rfl ?_
      refine j_iinc (pc := 28) C (lv' := [(0, .ref (h 0)), (1, .int (zI (zc (fun j => decide (M j (j + 1) ≤ li)) 0 i + 1))), (2, .int (zI (i + 1)))]) dX0_countSurelyDry_28 2 rfl (by decide) [1, 2, 0] rfl ?_
      refine j_goto (pc := 31) C 4 dX0_countSurelyDry_31 (by decide) ?_
      exact J.cast (hk_4 trivial) (by rfl) (by first | rw [zc_f (fun j => decide (M j (j + 1) ≤ li)) 0 i h0_4 (decide_eq_false e2)] | rw [zc_t (fun j => decide (M j (j + 1) ≤ li)) 0 i h0_4 (decide_eq_true e2)]) rfl
  · intro hI_4
    try dsimp only at hI_4 ⊢
    refine j_iload_n (pc := 4) C dX0_countSurelyDry_4 2 rfl ?_
    refine j_aload_n (pc := 5) C dX0_countSurelyDry_5 0 rfl ?_
    refine j_get (pc := 6) C (ref := "GrainSilo") (T := TX0) (N := 15) hin 0 rfl rfl 2 (by decide) (C.w 1 rfl) rfl rfl dX0_countSurelyDry_6 ?_
    refine j_icmp_ge (pc := 9) C 34 dX0_countSurelyDry_9 (by decide) ⟨by omega, by omega⟩ ⟨by omega, by omega⟩ (fun c_9 => ?_) (fun c_9 => absurd c_9 (by omega))
    refine j_iload_n (pc := 34) C dX0_countSurelyDry_34 1 rfl ?_
    exact j_iret (pc := 35) C hr dX0_countSurelyDry_35 (by rfl) (by rfl) (by decide) (by decide)
set_option maxHeartbeats 4000000 in
set_option maxRecDepth 100000 in
theorem kX0_countSurelyDamp (l : Launch) (D : va_G) (h : Nat → Nat) (c1 c2 c3 : ClassId) (K Dm : Int → Int) (L : Int) (lo hi su db : Int → Int) (S dy li so sp : Int) (tu ah : Int → Int) (M : Int → Int → Int) (hL0 : 0 ≤ L) (hL : L ≤ 12) (hl0 : 0 ≤ li) (hl1 : li ≤ 40) (hB : ∀ x y, 0 ≤ x → x ≤ L → 0 ≤ y → y ≤ L → -480 ≤ M x y ∧ M x y ≤ 480) : cI l yX0_countSurelyDamp wsX0_countSurelyDamp ({ frames := 1, cells := 0, slots := 0, locals := 22 }) D (tyS c1 c2 c3) [.ref (h 0)] (wG h c1 c2 K Dm L lo hi su db S dy li so sp tu ah M) (wG h c1 c2 K Dm L lo hi su db S dy li so sp tu ah M) (zI (nDamp M li L)) 0 0 := by
  refine cI.of (cc := cX0_countSurelyDamp) (maxL := 3) (ret := .int) (by decide) rfl (lv := [(0, .ref (h 0))]) [0] rfl (Nat.le_of_ble_eq_true rfl) ?_
  intro p e s m args below meth c A C hr
  have C : GC p s m args meth c cX0_countSurelyDamp 3 RX0 wsX0_countSurelyDamp D (tyS c1 c2 c3) A := C
  have hin : ∀ w ∈ wsX00, w ∈ wsX0_countSurelyDamp := fun _ h => List.mem_cons_of_mem _ (List.mem_append_right _ h)
  refine j_iconst (pc := 0) C dX0_countSurelyDamp_0 ?_
  refine j_istore_n (pc := 1) C (lv' := [(0, .ref (h 0)), (1, .int (zI 0))]) dX0_countSurelyDamp_1 (by decide) [1, 0] rfl ?_
  refine j_iconst (pc := 2) C dX0_countSurelyDamp_2 ?_
  refine j_istore_n (pc := 3) C (lv' := [(0, .ref (h 0)), (1, .int (zI 0)), (2, .int (zI 0))]) dX0_countSurelyDamp_3 (by decide) [1, 2, 0] rfl ?_
  refine J.cast (ws' := wG h c1 c2 K Dm L lo hi su db S dy li so sp tu ah M) (lv' := [(0, .ref (h 0)), (1, .int (zI (zc (fun j => decide (li < -(M (j + 1) j))) 0 0))), (2, .int (zI 0))]) ?_ (by rfl) (by rw [zc_0]) rfl
  refine j_up (fun i : Int => wG h c1 c2 K Dm L lo hi su db S dy li so sp tu ah M) (fun i : Int => [(0, .ref (h 0)), (1, .int (zI (zc (fun j => decide (li < -(M (j + 1) j))) 0 i))), (2, .int (zI i))]) (fun i : Int => True) 0 L (by omega) trivial ?_ ?_
  · intro i h0_4 h1_4 hI_4 hk_4
    try dsimp only at hI_4 hk_4 ⊢
    have q := hB (i + 1) i (by omega) (by omega) (by omega) (by omega)
    refine j_iload_n (pc := 4) C dX0_countSurelyDamp_4 2 rfl ?_
    refine j_aload_n (pc := 5) C dX0_countSurelyDamp_5 0 rfl ?_
    refine j_get (pc := 6) C (ref := "GrainSilo") (T := TX0) (N := 15) hin 0 rfl rfl 2 (by decide) (C.w 1 rfl) rfl rfl dX0_countSurelyDamp_6 ?_
    refine j_icmp_ge (pc := 9) C 34 dX0_countSurelyDamp_9 (by decide) ⟨by omega, by omega⟩ ⟨by omega, by omega⟩ (fun c_9 => absurd c_9 (by omega)) (fun c_9 => ?_)
    refine j_aload_n (pc := 12) C dX0_countSurelyDamp_12 0 rfl ?_
    refine j_aload_n (pc := 13) C dX0_countSurelyDamp_13 0 rfl ?_
    refine j_iload_n (pc := 14) C dX0_countSurelyDamp_14 2 rfl ?_
    refine j_iload_n (pc := 15) C dX0_countSurelyDamp_15 2 rfl ?_
    refine j_callI (pc := 16) C (As := [.int (zI i), .int (zI i)]) (rest := [.ref (h 0)]) (kX0_least l D h c1 c2 c3 K Dm L lo hi su db S dy li so sp tu ah M i i (by omega) (by omega) (by omega) (by omega)) (cwV 2 C.2.2.2.2.1 gX0_countSurelyDamp_X0_least rfl rfl rfl (by decide +kernel) ⟨Nat.le_of_ble_eq_true rfl, Nat.le_of_ble_eq_true rfl⟩) 0 (ci := 0) rfl rfl rfl dX0_countSurelyDamp_16 rfl rfl (Nat.le_of_ble_eq_true rfl) (by decide) ?_
    refine j_callI (pc := 19) C (As := [.int (zI (-(M (i + 1) i)))]) (rest := []) (kX0_isDamp l D h c1 c2 c3 K Dm L lo hi su db S dy li so sp tu ah M (-(M (i + 1) i)) ⟨by omega, by omega⟩ ⟨by omega, by omega⟩) (cwV 1 C.2.2.2.2.1 gX0_countSurelyDamp_X0_isDamp rfl rfl rfl (by decide +kernel) ⟨Nat.le_of_ble_eq_true rfl, Nat.le_of_ble_eq_true rfl⟩) 0 (ci := 0) rfl rfl rfl dX0_countSurelyDamp_19 rfl rfl (Nat.le_of_ble_eq_true rfl) (by decide) ?_
    refine j_if_eq (pc := 22) C 28 dX0_countSurelyDamp_22 (by decide) ⟨by omega, by omega⟩ (fun c_22 => ?_) (fun c_22 => ?_)
    · skip
      have e2 : ¬ li < -(M (i + 1) i) := by omega
      refine j_iinc (pc := 28) C (lv' := [(0, .ref (h 0)), (1, .int (zI (zc (fun j => decide (li < -(M (j + 1) j))) 0 i))), (2, .int (zI (i + 1)))]) dX0_countSurelyDamp_28 2 rfl (by decide) [1, 2, 0] rfl ?_
      refine j_goto (pc := 31) C 4 dX0_countSurelyDamp_31 (by decide) ?_
      exact J.cast (hk_4 trivial) (by rfl) (by first | rw [zc_f (fun j => decide (li < -(M (j + 1) j))) 0 i h0_4 (decide_eq_false e2)] | rw [zc_t (fun j => decide (li < -(M (j + 1) j))) 0 i h0_4 (decide_eq_true e2)]) rfl
    · skip
      have e2 : li < -(M (i + 1) i) := by omega
      refine j_iinc (pc := 25) C (lv' := [(0, .ref (h 0)), (1, .int (zI (zc (fun j => decide (li < -(M (j + 1) j))) 0 i + 1))), (2, .int (zI i))]) dX0_countSurelyDamp_25 1 rfl (by decide) [1, 0, 2] rfl ?_
      refine j_iinc (pc := 28) C (lv' := [(0, .ref (h 0)), (1, .int (zI (zc (fun j => decide (li < -(M (j + 1) j))) 0 i + 1))), (2, .int (zI (i + 1)))]) dX0_countSurelyDamp_28 2 rfl (by decide) [1, 2, 0] rfl ?_
      refine j_goto (pc := 31) C 4 dX0_countSurelyDamp_31 (by decide) ?_
      exact J.cast (hk_4 trivial) (by rfl) (by first | rw [zc_f (fun j => decide (li < -(M (j + 1) j))) 0 i h0_4 (decide_eq_false e2)] | rw [zc_t (fun j => decide (li < -(M (j + 1) j))) 0 i h0_4 (decide_eq_true e2)]) rfl
  · intro hI_4
    try dsimp only at hI_4 ⊢
    refine j_iload_n (pc := 4) C dX0_countSurelyDamp_4 2 rfl ?_
    refine j_aload_n (pc := 5) C dX0_countSurelyDamp_5 0 rfl ?_
    refine j_get (pc := 6) C (ref := "GrainSilo") (T := TX0) (N := 15) hin 0 rfl rfl 2 (by decide) (C.w 1 rfl) rfl rfl dX0_countSurelyDamp_6 ?_
    refine j_icmp_ge (pc := 9) C 34 dX0_countSurelyDamp_9 (by decide) ⟨by omega, by omega⟩ ⟨by omega, by omega⟩ (fun c_9 => ?_) (fun c_9 => absurd c_9 (by omega))
    refine j_iload_n (pc := 34) C dX0_countSurelyDamp_34 1 rfl ?_
    exact j_iret (pc := 35) C hr dX0_countSurelyDamp_35 (by rfl) (by rfl) (by decide) (by decide)
set_option maxHeartbeats 4000000 in
set_option maxRecDepth 100000 in
theorem kX0_dampLayers (l : Launch) (D : va_G) (h : Nat → Nat) (c1 c2 c3 : ClassId) (K Dm : Int → Int) (L : Int) (lo hi su db : Int → Int) (S dy li so sp : Int) (tu ah : Int → Int) (M : Int → Int → Int) (hL0 : 0 ≤ L) (hL : L ≤ 12) (hl0 : 0 ≤ li) (hl1 : li ≤ 40) (hf : ∀ j, 0 ≤ j → j < L → 0 ≤ Dm j ∧ Dm j ≤ 40) : cI l yX0_dampLayers wsX0_dampLayers ({ frames := 1, cells := 0, slots := 0, locals := 21 }) D (tyS c1 c2 c3) [.ref (h 0)] (wG h c1 c2 K Dm L lo hi su db S dy li so sp tu ah M) (wG h c1 c2 K Dm L lo hi su db S dy li so sp tu ah M) (zI (zc (fun j => decide (li < Dm j)) 0 L)) 0 0 := by
  refine cI.of (cc := cX0_dampLayers) (maxL := 3) (ret := .int) (by decide) rfl (lv := [(0, .ref (h 0))]) [0] rfl (Nat.le_of_ble_eq_true rfl) ?_
  intro p e s m args below meth c A C hr
  have C : GC p s m args meth c cX0_dampLayers 3 RX0 wsX0_dampLayers D (tyS c1 c2 c3) A := C
  have hin : ∀ w ∈ wsX00, w ∈ wsX0_dampLayers := fun _ h => List.mem_cons_of_mem _ (List.mem_append_right _ h)
  refine j_iconst (pc := 0) C dX0_dampLayers_0 ?_
  refine j_istore_n (pc := 1) C (lv' := [(0, .ref (h 0)), (1, .int (zI 0))]) dX0_dampLayers_1 (by decide) [1, 0] rfl ?_
  refine j_iconst (pc := 2) C dX0_dampLayers_2 ?_
  refine j_istore_n (pc := 3) C (lv' := [(0, .ref (h 0)), (1, .int (zI 0)), (2, .int (zI 0))]) dX0_dampLayers_3 (by decide) [1, 2, 0] rfl ?_
  refine J.cast (ws' := wG h c1 c2 K Dm L lo hi su db S dy li so sp tu ah M) (lv' := [(0, .ref (h 0)), (1, .int (zI (zc (fun j => decide (li < Dm j)) 0 0))), (2, .int (zI 0))]) ?_ (by rfl) (by rw [zc_0]) rfl
  refine j_up (fun i : Int => wG h c1 c2 K Dm L lo hi su db S dy li so sp tu ah M) (fun i : Int => [(0, .ref (h 0)), (1, .int (zI (zc (fun j => decide (li < Dm j)) 0 i))), (2, .int (zI i))]) (fun i : Int => True) 0 L (by omega) trivial ?_ ?_
  · intro i h0_4 h1_4 hI_4 hk_4
    try dsimp only at hI_4 hk_4 ⊢
    have q := hf i (by omega) (by omega)
    refine j_iload_n (pc := 4) C dX0_dampLayers_4 2 rfl ?_
    refine j_aload_n (pc := 5) C dX0_dampLayers_5 0 rfl ?_
    refine j_get (pc := 6) C (ref := "GrainSilo") (T := TX0) (N := 15) hin 0 rfl rfl 2 (by decide) (C.w 1 rfl) rfl rfl dX0_dampLayers_6 ?_
    refine j_icmp_ge (pc := 9) C 34 dX0_dampLayers_9 (by decide) ⟨by omega, by omega⟩ ⟨by omega, by omega⟩ (fun c_9 => absurd c_9 (by omega)) (fun c_9 => ?_)
    refine j_aload_n (pc := 12) C dX0_dampLayers_12 0 rfl ?_
    refine j_aload_n (pc := 13) C dX0_dampLayers_13 0 rfl ?_
    refine j_get (pc := 14) C (ref := "GrainSilo") (T := TX0) (N := 15) hin 0 rfl rfl 1 (by decide) (C.w 2 rfl) rfl rfl dX0_dampLayers_14 ?_
    refine j_iload_n (pc := 17) C dX0_dampLayers_17 2 rfl ?_
    refine j_iald (pc := 18) C 2 0 rfl rfl (by omega) (by omega) (by decide) dX0_dampLayers_18 ?_
    refine j_callI (pc := 19) C (As := [.int (zI (Dm i))]) (rest := []) (kX0_isDamp l D h c1 c2 c3 K Dm L lo hi su db S dy li so sp tu ah M (Dm i) ⟨by omega, by omega⟩ ⟨by omega, by omega⟩) (cwV 1 C.2.2.2.2.1 gX0_dampLayers_X0_isDamp rfl rfl rfl (by decide +kernel) ⟨Nat.le_of_ble_eq_true rfl, Nat.le_of_ble_eq_true rfl⟩) 0 (ci := 0) rfl rfl rfl dX0_dampLayers_19 rfl rfl (Nat.le_of_ble_eq_true rfl) (by decide) ?_
    refine j_if_eq (pc := 22) C 28 dX0_dampLayers_22 (by decide) ⟨by omega, by omega⟩ (fun c_22 => ?_) (fun c_22 => ?_)
    · skip
      have e2 : ¬ li < Dm i := by omega
      refine j_iinc (pc := 28) C (lv' := [(0, .ref (h 0)), (1, .int (zI (zc (fun j => decide (li < Dm j)) 0 i))), (2, .int (zI (i + 1)))]) dX0_dampLayers_28 2 rfl (by decide) [1, 2, 0] rfl ?_
      refine j_goto (pc := 31) C 4 dX0_dampLayers_31 (by decide) ?_
      exact J.cast (hk_4 trivial) (by rfl) (by first | rw [zc_f (fun j => decide (li < Dm j)) 0 i h0_4 (decide_eq_false e2)] | rw [zc_t (fun j => decide (li < Dm j)) 0 i h0_4 (decide_eq_true e2)]) rfl
    · skip
      have e2 : li < Dm i := by omega
      refine j_iinc (pc := 25) C (lv' := [(0, .ref (h 0)), (1, .int (zI (zc (fun j => decide (li < Dm j)) 0 i + 1))), (2, .int (zI i))]) dX0_dampLayers_25 1 rfl (by decide) [1, 0, 2] rfl ?_
      refine j_iinc (pc := 28) C (lv' := [(0, .ref (h 0)), (1, .int (zI (zc (fun j => decide (li < Dm j)) 0 i + 1))), (2, .int (zI (i + 1)))]) dX0_dampLayers_28 2 rfl (by decide) [1, 2, 0] rfl ?_
      refine j_goto (pc := 31) C 4 dX0_dampLayers_31 (by decide) ?_
      exact J.cast (hk_4 trivial) (by rfl) (by first | rw [zc_f (fun j => decide (li < Dm j)) 0 i h0_4 (decide_eq_false e2)] | rw [zc_t (fun j => decide (li < Dm j)) 0 i h0_4 (decide_eq_true e2)]) rfl
  · intro hI_4
    try dsimp only at hI_4 ⊢
    refine j_iload_n (pc := 4) C dX0_dampLayers_4 2 rfl ?_
    refine j_aload_n (pc := 5) C dX0_dampLayers_5 0 rfl ?_
    refine j_get (pc := 6) C (ref := "GrainSilo") (T := TX0) (N := 15) hin 0 rfl rfl 2 (by decide) (C.w 1 rfl) rfl rfl dX0_dampLayers_6 ?_
    refine j_icmp_ge (pc := 9) C 34 dX0_dampLayers_9 (by decide) ⟨by omega, by omega⟩ ⟨by omega, by omega⟩ (fun c_9 => ?_) (fun c_9 => absurd c_9 (by omega))
    refine j_iload_n (pc := 34) C dX0_dampLayers_34 1 rfl ?_
    exact j_iret (pc := 35) C hr dX0_dampLayers_35 (by rfl) (by rfl) (by decide) (by decide)
set_option maxHeartbeats 4000000 in
set_option maxRecDepth 100000 in
theorem kX0_doubtNow (l : Launch) (D : va_G) (h : Nat → Nat) (c1 c2 c3 : ClassId) (K Dm : Int → Int) (L : Int) (lo hi su db : Int → Int) (S dy li so sp : Int) (tu ah : Int → Int) (M : Int → Int → Int) (hL0 : 0 ≤ L) (hL : L ≤ 12) : cI l yX0_doubtNow wsX0_doubtNow ({ frames := 1, cells := 0, slots := 0, locals := 22 }) D (tyS c1 c2 c3) [.ref (h 0)] (wG h c1 c2 K Dm L lo hi su db S dy li so sp tu ah M) (wG h c1 c2 K Dm L lo hi su db S dy li so sp tu ah M) (zI (dNow M L)) 0 0 := by
  refine cI.of (cc := cX0_doubtNow) (maxL := 3) (ret := .int) (by decide) rfl (lv := [(0, .ref (h 0))]) [0] rfl (Nat.le_of_ble_eq_true rfl) ?_
  intro p e s m args below meth c A C hr
  have C : GC p s m args meth c cX0_doubtNow 3 RX0 wsX0_doubtNow D (tyS c1 c2 c3) A := C
  have hin : ∀ w ∈ wsX00, w ∈ wsX0_doubtNow := fun _ h => List.mem_cons_of_mem _ (List.mem_append_right _ h)
  refine j_iconst (pc := 0) C dX0_doubtNow_0 ?_
  refine j_istore_n (pc := 1) C (lv' := [(0, .ref (h 0)), (1, .int (zI 0))]) dX0_doubtNow_1 (by decide) [1, 0] rfl ?_
  refine j_iconst (pc := 2) C dX0_doubtNow_2 ?_
  refine j_istore_n (pc := 3) C (lv' := [(0, .ref (h 0)), (1, .int (zI 0)), (2, .int (zI 0))]) dX0_doubtNow_3 (by decide) [1, 2, 0] rfl ?_
  refine J.cast (ws' := wG h c1 c2 K Dm L lo hi su db S dy li so sp tu ah M) (lv' := [(0, .ref (h 0)), (1, .int (zI (dNow M 0))), (2, .int (zI 0))]) ?_ (by rfl) (by rw [show dNow M 0 = 0 from zs_0 _ 0]) rfl
  refine j_up (fun i : Int => wG h c1 c2 K Dm L lo hi su db S dy li so sp tu ah M) (fun i : Int => [(0, .ref (h 0)), (1, .int (zI (dNow M i))), (2, .int (zI i))]) (fun i : Int => True) 0 L (by omega) trivial ?_ ?_
  · intro i h0_4 h1_4 hI_4 hk_4
    try dsimp only at hI_4 hk_4 ⊢
    refine j_iload_n (pc := 4) C dX0_doubtNow_4 2 rfl ?_
    refine j_aload_n (pc := 5) C dX0_doubtNow_5 0 rfl ?_
    refine j_get (pc := 6) C (ref := "GrainSilo") (T := TX0) (N := 15) hin 0 rfl rfl 2 (by decide) (C.w 1 rfl) rfl rfl dX0_doubtNow_6 ?_
    refine j_icmp_ge (pc := 9) C 34 dX0_doubtNow_9 (by decide) ⟨by omega, by omega⟩ ⟨by omega, by omega⟩ (fun c_9 => absurd c_9 (by omega)) (fun c_9 => ?_)
    refine j_iload_n (pc := 12) C dX0_doubtNow_12 1 rfl ?_
    refine j_aload_n (pc := 13) C dX0_doubtNow_13 0 rfl ?_
    refine j_iload_n (pc := 14) C dX0_doubtNow_14 2 rfl ?_
    refine j_iload_n (pc := 15) C dX0_doubtNow_15 2 rfl ?_
    refine j_callI (pc := 16) C (As := [.int (zI i), .int (zI i)]) (rest := [.int (zI (dNow M i))]) (kX0_greatest l D h c1 c2 c3 K Dm L lo hi su db S dy li so sp tu ah M i i (by omega) (by omega) (by omega) (by omega)) (cwV 2 C.2.2.2.2.1 gX0_doubtNow_X0_greatest rfl rfl rfl (by decide +kernel) ⟨Nat.le_of_ble_eq_true rfl, Nat.le_of_ble_eq_true rfl⟩) 0 (ci := 0) rfl rfl rfl dX0_doubtNow_16 rfl rfl (Nat.le_of_ble_eq_true rfl) (by decide) ?_
    refine j_aload_n (pc := 19) C dX0_doubtNow_19 0 rfl ?_
    refine j_iload_n (pc := 20) C dX0_doubtNow_20 2 rfl ?_
    refine j_iload_n (pc := 21) C dX0_doubtNow_21 2 rfl ?_
    refine j_callI (pc := 22) C (As := [.int (zI i), .int (zI i)]) (rest := [.int (zI (M i (i + 1))), .int (zI (dNow M i))]) (kX0_least l D h c1 c2 c3 K Dm L lo hi su db S dy li so sp tu ah M i i (by omega) (by omega) (by omega) (by omega)) (cwV 2 C.2.2.2.2.1 gX0_doubtNow_X0_least rfl rfl rfl (by decide +kernel) ⟨Nat.le_of_ble_eq_true rfl, Nat.le_of_ble_eq_true rfl⟩) 0 (ci := 0) rfl rfl rfl dX0_doubtNow_22 rfl rfl (Nat.le_of_ble_eq_true rfl) (by decide) ?_
    refine j_isub (pc := 25) C dX0_doubtNow_25 ?_
    refine j_iadd (pc := 26) C dX0_doubtNow_26 ?_
    refine j_istore_n (pc := 27) C (lv' := [(0, .ref (h 0)), (1, .int (zI ((dNow M i) + ((M i (i + 1)) - (-(M (i + 1) i)))))), (2, .int (zI i))]) dX0_doubtNow_27 (by decide) [1, 0, 2] rfl ?_
    refine j_iinc (pc := 28) C (lv' := [(0, .ref (h 0)), (1, .int (zI ((dNow M i) + ((M i (i + 1)) - (-(M (i + 1) i)))))), (2, .int (zI (i + 1)))]) dX0_doubtNow_28 2 rfl (by decide) [1, 2, 0] rfl ?_
    refine j_goto (pc := 31) C 4 dX0_doubtNow_31 (by decide) ?_
    exact J.cast (hk_4 trivial) (by rfl) (by rw [show dNow M (i + 1) = dNow M i + (M i (i + 1) - -(M (i + 1) i)) from zs_up _ 0 i h0_4]) rfl
  · intro hI_4
    try dsimp only at hI_4 ⊢
    refine j_iload_n (pc := 4) C dX0_doubtNow_4 2 rfl ?_
    refine j_aload_n (pc := 5) C dX0_doubtNow_5 0 rfl ?_
    refine j_get (pc := 6) C (ref := "GrainSilo") (T := TX0) (N := 15) hin 0 rfl rfl 2 (by decide) (C.w 1 rfl) rfl rfl dX0_doubtNow_6 ?_
    refine j_icmp_ge (pc := 9) C 34 dX0_doubtNow_9 (by decide) ⟨by omega, by omega⟩ ⟨by omega, by omega⟩ (fun c_9 => ?_) (fun c_9 => absurd c_9 (by omega))
    refine j_iload_n (pc := 34) C dX0_doubtNow_34 1 rfl ?_
    exact j_iret (pc := 35) C hr dX0_doubtNow_35 (by rfl) (by rfl) (by decide) (by decide)
set_option maxHeartbeats 4000000 in
set_option maxRecDepth 100000 in
theorem kX0_mostIfTold (l : Launch) (D : va_G) (h : Nat → Nat) (c1 c2 c3 : ClassId) (K Dm : Int → Int) (L : Int) (lo hi su db : Int → Int) (S dy li so sp : Int) (tu ah : Int → Int) (M : Int → Int → Int) (a b u v t : Int) (hL0 : 0 ≤ L) (hL : L ≤ 12) (a0 : 0 ≤ a) (a1 : a ≤ L) (b0 : 0 ≤ b) (b1 : b ≤ L) (u0 : 0 ≤ u) (u1 : u ≤ L) (v0 : 0 ≤ v) (v1 : v ≤ L) (t0 : 0 ≤ t) (t1 : t ≤ 480) (hB : ∀ x y, 0 ≤ x → x ≤ L → 0 ≤ y → y ≤ L → -480 ≤ M x y ∧ M x y ≤ 480) : cI l yX0_mostIfTold wsX0_mostIfTold ({ frames := 1, cells := 0, slots := 0, locals := 21 }) D (tyS c1 c2 c3) [.ref (h 0), .int (zI a), .int (zI b), .int (zI u), .int (zI v), .int (zI t)] (wG h c1 c2 K Dm L lo hi su db S dy li so sp tu ah M) (wG h c1 c2 K Dm L lo hi su db S dy li so sp tu ah M) (zI (told M a b u v t)) 0 0 := by
  refine cI.of (cc := cX0_mostIfTold) (maxL := 8) (ret := .int) (by decide) rfl (lv := [(0, .ref (h 0)), (1, .int (zI a)), (2, .int (zI b)), (3, .int (zI u)), (4, .int (zI v)), (5, .int (zI t))]) [0, 1, 2, 3, 4, 5] rfl (Nat.le_of_ble_eq_true rfl) ?_
  intro p e s m args below meth c A C hr
  have C : GC p s m args meth c cX0_mostIfTold 8 RX0 wsX0_mostIfTold D (tyS c1 c2 c3) A := C
  have hin : ∀ w ∈ wsX00, w ∈ wsX0_mostIfTold := fun _ h => List.mem_cons_of_mem _ (List.mem_append_right _ h)
  have q1 := hB a b a0 a1 b0 b1
  have q2 := hB a u a0 a1 u0 u1
  have q3 := hB v b v0 v1 b0 b1
  have q4 := hB a v a0 a1 v0 v1
  have q5 := hB u b u0 u1 b0 b1
  refine j_aload_n (pc := 0) C dX0_mostIfTold_0 0 rfl ?_
  refine j_get (pc := 1) C (ref := "GrainSilo") (T := TX0) (N := 15) hin 0 rfl rfl 14 (by decide) (C.w 1 rfl) rfl rfl dX0_mostIfTold_1 ?_
  refine j_iload_n (pc := 4) C dX0_mostIfTold_4 1 rfl ?_
  refine j_aald (pc := 5) C 9 1 (g := fun j => h (10 + j)) rfl rfl (by omega) (by omega) (by decide) dX0_mostIfTold_5 ?_
  refine j_iload_n (pc := 6) C dX0_mostIfTold_6 3 rfl ?_
  refine j_iald (pc := 7) C (10 + (a).toNat) 0 (wG_row h c1 c2 K Dm L lo hi su db S dy li so sp tu ah M a (by omega) (by omega)) rfl (by omega) (by omega) (by decide) dX0_mostIfTold_7 ?_
  refine j_iload (pc := 8) C dX0_mostIfTold_8 5 rfl ?_
  refine j_iadd (pc := 10) C dX0_mostIfTold_10 ?_
  refine j_aload_n (pc := 11) C dX0_mostIfTold_11 0 rfl ?_
  refine j_get (pc := 12) C (ref := "GrainSilo") (T := TX0) (N := 15) hin 0 rfl rfl 14 (by decide) (C.w 1 rfl) rfl rfl dX0_mostIfTold_12 ?_
  refine j_iload (pc := 15) C dX0_mostIfTold_15 4 rfl ?_
  refine j_aald (pc := 17) C 9 1 (g := fun j => h (10 + j)) rfl rfl (by omega) (by omega) (by decide) dX0_mostIfTold_17 ?_
  refine j_iload_n (pc := 18) C dX0_mostIfTold_18 2 rfl ?_
  refine j_iald (pc := 19) C (10 + (v).toNat) 0 (wG_row h c1 c2 K Dm L lo hi su db S dy li so sp tu ah M v (by omega) (by omega)) rfl (by omega) (by omega) (by decide) dX0_mostIfTold_19 ?_
  refine j_iadd (pc := 20) C dX0_mostIfTold_20 ?_
  refine j_istore (pc := 21) C (lv' := [(0, .ref (h 0)), (1, .int (zI a)), (2, .int (zI b)), (3, .int (zI u)), (4, .int (zI v)), (5, .int (zI t)), (6, .int (zI (((M a u) + t) + (M v b))))]) dX0_mostIfTold_21 (by decide) [1, 2, 3, 4, 5, 6, 0] rfl ?_
  refine j_aload_n (pc := 23) C dX0_mostIfTold_23 0 rfl ?_
  refine j_get (pc := 24) C (ref := "GrainSilo") (T := TX0) (N := 15) hin 0 rfl rfl 14 (by decide) (C.w 1 rfl) rfl rfl dX0_mostIfTold_24 ?_
  refine j_iload_n (pc := 27) C dX0_mostIfTold_27 1 rfl ?_
  refine j_aald (pc := 28) C 9 1 (g := fun j => h (10 + j)) rfl rfl (by omega) (by omega) (by decide) dX0_mostIfTold_28 ?_
  refine j_iload (pc := 29) C dX0_mostIfTold_29 4 rfl ?_
  refine j_iald (pc := 31) C (10 + (a).toNat) 0 (wG_row h c1 c2 K Dm L lo hi su db S dy li so sp tu ah M a (by omega) (by omega)) rfl (by omega) (by omega) (by decide) dX0_mostIfTold_31 ?_
  refine j_iload (pc := 32) C dX0_mostIfTold_32 5 rfl ?_
  refine j_isub (pc := 34) C dX0_mostIfTold_34 ?_
  refine j_aload_n (pc := 35) C dX0_mostIfTold_35 0 rfl ?_
  refine j_get (pc := 36) C (ref := "GrainSilo") (T := TX0) (N := 15) hin 0 rfl rfl 14 (by decide) (C.w 1 rfl) rfl rfl dX0_mostIfTold_36 ?_
  refine j_iload_n (pc := 39) C dX0_mostIfTold_39 3 rfl ?_
  refine j_aald (pc := 40) C 9 1 (g := fun j => h (10 + j)) rfl rfl (by omega) (by omega) (by decide) dX0_mostIfTold_40 ?_
  refine j_iload_n (pc := 41) C dX0_mostIfTold_41 2 rfl ?_
  refine j_iald (pc := 42) C (10 + (u).toNat) 0 (wG_row h c1 c2 K Dm L lo hi su db S dy li so sp tu ah M u (by omega) (by omega)) rfl (by omega) (by omega) (by decide) dX0_mostIfTold_42 ?_
  refine j_iadd (pc := 43) C dX0_mostIfTold_43 ?_
  refine j_istore (pc := 44) C (lv' := [(0, .ref (h 0)), (1, .int (zI a)), (2, .int (zI b)), (3, .int (zI u)), (4, .int (zI v)), (5, .int (zI t)), (6, .int (zI (((M a u) + t) + (M v b)))), (7, .int (zI (((M a v) - t) + (M u b))))]) dX0_mostIfTold_44 (by decide) [1, 2, 3, 4, 5, 6, 7, 0] rfl ?_
  refine j_aload_n (pc := 46) C dX0_mostIfTold_46 0 rfl ?_
  refine j_get (pc := 47) C (ref := "GrainSilo") (T := TX0) (N := 15) hin 0 rfl rfl 14 (by decide) (C.w 1 rfl) rfl rfl dX0_mostIfTold_47 ?_
  refine j_iload_n (pc := 50) C dX0_mostIfTold_50 1 rfl ?_
  refine j_aald (pc := 51) C 9 1 (g := fun j => h (10 + j)) rfl rfl (by omega) (by omega) (by decide) dX0_mostIfTold_51 ?_
  refine j_iload_n (pc := 52) C dX0_mostIfTold_52 2 rfl ?_
  refine j_iald (pc := 53) C (10 + (a).toNat) 0 (wG_row h c1 c2 K Dm L lo hi su db S dy li so sp tu ah M a (by omega) (by omega)) rfl (by omega) (by omega) (by decide) dX0_mostIfTold_53 ?_
  refine j_iload (pc := 54) C dX0_mostIfTold_54 6 rfl ?_
  refine j_iload (pc := 56) C dX0_mostIfTold_56 7 rfl ?_
  refine j_min (pc := 58) C (C.w 2 rfl) (C.w 3 rfl) (C.w 4 rfl) (C.w 5 rfl) (by decide) (Nat.le_of_ble_eq_true rfl) (by decide) (by decide) ⟨by omega, by omega⟩ ⟨by omega, by omega⟩ dX0_mostIfTold_58 ?_
  refine j_min (pc := 61) C (C.w 2 rfl) (C.w 3 rfl) (C.w 4 rfl) (C.w 5 rfl) (by decide) (Nat.le_of_ble_eq_true rfl) (by decide) (by decide) ⟨by omega, by omega⟩ ⟨by omega, by omega⟩ dX0_mostIfTold_61 ?_
  exact j_iret (pc := 64) C hr dX0_mostIfTold_64 (by rfl) (by rfl) (by decide) (by decide)
set_option maxHeartbeats 4000000 in
set_option maxRecDepth 100000 in
theorem kX0_doubtIfDrawn (l : Launch) (D : va_G) (h : Nat → Nat) (c1 c2 c3 : ClassId) (K Dm : Int → Int) (L : Int) (lo hi su db : Int → Int) (S dy li so sp : Int) (tu ah : Int → Int) (M : Int → Int → Int) (a b : Int) (hL0 : 0 ≤ L) (hL : L ≤ 12) (h0 : 0 ≤ a) (h1 : a ≤ b) (h2 : b < L) (hf : ∀ j, 0 ≤ j → j < L → 0 ≤ Dm j ∧ Dm j ≤ 40) (hB : ∀ x y, 0 ≤ x → x ≤ L → 0 ≤ y → y ≤ L → -480 ≤ M x y ∧ M x y ≤ 480) : cI l yX0_doubtIfDrawn wsX0_doubtIfDrawn ({ frames := 2, cells := 0, slots := 0, locals := 48 }) D (tyS c1 c2 c3) [.ref (h 0), .int (zI a), .int (zI b)] (wG h c1 c2 K Dm L lo hi su db S dy li so sp tu ah M) (wG h c1 c2 K Dm L lo hi su db S dy li so sp tu ah M) (zI (dIf M Dm L a b)) 0 0 := by
  refine cI.of (cc := cX0_doubtIfDrawn) (maxL := 6) (ret := .int) (by decide) rfl (lv := [(0, .ref (h 0)), (1, .int (zI a)), (2, .int (zI b))]) [0, 1, 2] rfl (Nat.le_of_ble_eq_true rfl) ?_
  intro p e s m args below meth c A C hr
  have C : GC p s m args meth c cX0_doubtIfDrawn 6 RX0 wsX0_doubtIfDrawn D (tyS c1 c2 c3) A := C
  have hin : ∀ w ∈ wsX00, w ∈ wsX0_doubtIfDrawn := fun _ h => List.mem_cons_of_mem _ (List.mem_append_right _ h)
  have ht := zs_bnd hf a (b + 1) h0 (by omega) (by omega)
  refine j_aload_n (pc := 0) C dX0_doubtIfDrawn_0 0 rfl ?_
  refine j_iload_n (pc := 1) C dX0_doubtIfDrawn_1 1 rfl ?_
  refine j_iload_n (pc := 2) C dX0_doubtIfDrawn_2 2 rfl ?_
  refine j_callI (pc := 3) C (As := [.int (zI a), .int (zI b)]) (rest := []) (kX0_sumNow l D h c1 c2 c3 K Dm L lo hi su db S dy li so sp tu ah M a b (by omega) (by omega) (by omega)) (cwV 2 C.2.2.2.2.1 gX0_doubtIfDrawn_X0_sumNow rfl rfl rfl (by decide +kernel) ⟨Nat.le_of_ble_eq_true rfl, Nat.le_of_ble_eq_true rfl⟩) 0 (ci := 0) rfl rfl rfl dX0_doubtIfDrawn_3 rfl rfl (Nat.le_of_ble_eq_true rfl) (by decide) ?_
  refine j_istore_n (pc := 6) C (lv' := [(0, .ref (h 0)), (1, .int (zI a)), (2, .int (zI b)), (3, .int (zI (zs Dm a (b + 1))))]) dX0_doubtIfDrawn_6 (by decide) [1, 2, 3, 0] rfl ?_
  refine j_iconst (pc := 7) C dX0_doubtIfDrawn_7 ?_
  refine j_istore (pc := 8) C (lv' := [(0, .ref (h 0)), (1, .int (zI a)), (2, .int (zI b)), (3, .int (zI (zs Dm a (b + 1)))), (4, .int (zI 0))]) dX0_doubtIfDrawn_8 (by decide) [1, 2, 3, 4, 0] rfl ?_
  refine j_iconst (pc := 10) C dX0_doubtIfDrawn_10 ?_
  refine j_istore (pc := 11) C (lv' := [(0, .ref (h 0)), (1, .int (zI a)), (2, .int (zI b)), (3, .int (zI (zs Dm a (b + 1)))), (4, .int (zI 0)), (5, .int (zI 0))]) dX0_doubtIfDrawn_11 (by decide) [1, 2, 3, 4, 5, 0] rfl ?_
  refine J.cast (ws' := wG h c1 c2 K Dm L lo hi su db S dy li so sp tu ah M) (lv' := [(0, .ref (h 0)), (1, .int (zI a)), (2, .int (zI b)), (3, .int (zI (zs Dm a (b + 1)))), (4, .int (zI (zs (fun j => told M j (j + 1) a (b + 1) (zs Dm a (b + 1)) + told M (j + 1) j a (b + 1) (zs Dm a (b + 1))) 0 0))), (5, .int (zI 0))]) ?_ (by rfl) (by rw [zs_0]) rfl
  refine j_up (fun i : Int => wG h c1 c2 K Dm L lo hi su db S dy li so sp tu ah M) (fun i : Int => [(0, .ref (h 0)), (1, .int (zI a)), (2, .int (zI b)), (3, .int (zI (zs Dm a (b + 1)))), (4, .int (zI (zs (fun j => told M j (j + 1) a (b + 1) (zs Dm a (b + 1)) + told M (j + 1) j a (b + 1) (zs Dm a (b + 1))) 0 i))), (5, .int (zI i))]) (fun i : Int => True) 0 L (by omega) trivial ?_ ?_
  · intro i h0_13 h1_13 hI_13 hk_13
    try dsimp only at hI_13 hk_13 ⊢
    refine j_iload (pc := 13) C dX0_doubtIfDrawn_13 5 rfl ?_
    refine j_aload_n (pc := 15) C dX0_doubtIfDrawn_15 0 rfl ?_
    refine j_get (pc := 16) C (ref := "GrainSilo") (T := TX0) (N := 15) hin 0 rfl rfl 2 (by decide) (C.w 1 rfl) rfl rfl dX0_doubtIfDrawn_16 ?_
    refine j_icmp_ge (pc := 19) C 64 dX0_doubtIfDrawn_19 (by decide) ⟨by omega, by omega⟩ ⟨by omega, by omega⟩ (fun c_19 => absurd c_19 (by omega)) (fun c_19 => ?_)
    refine j_iload (pc := 22) C dX0_doubtIfDrawn_22 4 rfl ?_
    refine j_aload_n (pc := 24) C dX0_doubtIfDrawn_24 0 rfl ?_
    refine j_iload (pc := 25) C dX0_doubtIfDrawn_25 5 rfl ?_
    refine j_iload (pc := 27) C dX0_doubtIfDrawn_27 5 rfl ?_
    refine j_iconst (pc := 29) C dX0_doubtIfDrawn_29 ?_
    refine j_iadd (pc := 30) C dX0_doubtIfDrawn_30 ?_
    refine j_iload_n (pc := 31) C dX0_doubtIfDrawn_31 1 rfl ?_
    refine j_iload_n (pc := 32) C dX0_doubtIfDrawn_32 2 rfl ?_
    refine j_iconst (pc := 33) C dX0_doubtIfDrawn_33 ?_
    refine j_iadd (pc := 34) C dX0_doubtIfDrawn_34 ?_
    refine j_iload_n (pc := 35) C dX0_doubtIfDrawn_35 3 rfl ?_
    refine j_callI (pc := 36) C (As := [.int (zI i), .int (zI (i + 1)), .int (zI a), .int (zI (b + 1)), .int (zI (zs Dm a (b + 1)))]) (rest := [.int (zI (zs (fun j => told M j (j + 1) a (b + 1) (zs Dm a (b + 1)) + told M (j + 1) j a (b + 1) (zs Dm a (b + 1))) 0 i))]) (kX0_mostIfTold l D h c1 c2 c3 K Dm L lo hi su db S dy li so sp tu ah M i (i + 1) a (b + 1) (zs Dm a (b + 1)) (by omega) (by omega) (by omega) (by omega) (by omega) (by omega) (by omega) (by omega) (by omega) (by omega) (by omega) (by omega) hB) (cwV 5 C.2.2.2.2.1 gX0_doubtIfDrawn_X0_mostIfTold rfl rfl rfl (by decide +kernel) ⟨Nat.le_of_ble_eq_true rfl, Nat.le_of_ble_eq_true rfl⟩) 0 (ci := 0) rfl rfl rfl dX0_doubtIfDrawn_36 rfl rfl (Nat.le_of_ble_eq_true rfl) (by decide) ?_
    refine j_aload_n (pc := 39) C dX0_doubtIfDrawn_39 0 rfl ?_
    refine j_iload (pc := 40) C dX0_doubtIfDrawn_40 5 rfl ?_
    refine j_iconst (pc := 42) C dX0_doubtIfDrawn_42 ?_
    refine j_iadd (pc := 43) C dX0_doubtIfDrawn_43 ?_
    refine j_iload (pc := 44) C dX0_doubtIfDrawn_44 5 rfl ?_
    refine j_iload_n (pc := 46) C dX0_doubtIfDrawn_46 1 rfl ?_
    refine j_iload_n (pc := 47) C dX0_doubtIfDrawn_47 2 rfl ?_
    refine j_iconst (pc := 48) C dX0_doubtIfDrawn_48 ?_
    refine j_iadd (pc := 49) C dX0_doubtIfDrawn_49 ?_
    refine j_iload_n (pc := 50) C dX0_doubtIfDrawn_50 3 rfl ?_
    refine j_callI (pc := 51) C (As := [.int (zI (i + 1)), .int (zI i), .int (zI a), .int (zI (b + 1)), .int (zI (zs Dm a (b + 1)))]) (rest := [.int (zI (told M i (i + 1) a (b + 1) (zs Dm a (b + 1)))), .int (zI (zs (fun j => told M j (j + 1) a (b + 1) (zs Dm a (b + 1)) + told M (j + 1) j a (b + 1) (zs Dm a (b + 1))) 0 i))]) (kX0_mostIfTold l D h c1 c2 c3 K Dm L lo hi su db S dy li so sp tu ah M (i + 1) i a (b + 1) (zs Dm a (b + 1)) (by omega) (by omega) (by omega) (by omega) (by omega) (by omega) (by omega) (by omega) (by omega) (by omega) (by omega) (by omega) hB) (cwV 5 C.2.2.2.2.1 gX0_doubtIfDrawn_X0_mostIfTold rfl rfl rfl (by decide +kernel) ⟨Nat.le_of_ble_eq_true rfl, Nat.le_of_ble_eq_true rfl⟩) 0 (ci := 0) rfl rfl rfl dX0_doubtIfDrawn_51 rfl rfl (Nat.le_of_ble_eq_true rfl) (by decide) ?_
    refine j_iadd (pc := 54) C dX0_doubtIfDrawn_54 ?_
    refine j_iadd (pc := 55) C dX0_doubtIfDrawn_55 ?_
    refine j_istore (pc := 56) C (lv' := [(0, .ref (h 0)), (1, .int (zI a)), (2, .int (zI b)), (3, .int (zI (zs Dm a (b + 1)))), (4, .int (zI ((zs (fun j => told M j (j + 1) a (b + 1) (zs Dm a (b + 1)) + told M (j + 1) j a (b + 1) (zs Dm a (b + 1))) 0 i) + ((told M i (i + 1) a (b + 1) (zs Dm a (b + 1))) + (told M (i + 1) i a (b + 1) (zs Dm a (b + 1))))))), (5, .int (zI i))]) dX0_doubtIfDrawn_56 (by decide) [1, 2, 3, 4, 0, 5] rfl ?_
    refine j_iinc (pc := 58) C (lv' := [(0, .ref (h 0)), (1, .int (zI a)), (2, .int (zI b)), (3, .int (zI (zs Dm a (b + 1)))), (4, .int (zI ((zs (fun j => told M j (j + 1) a (b + 1) (zs Dm a (b + 1)) + told M (j + 1) j a (b + 1) (zs Dm a (b + 1))) 0 i) + ((told M i (i + 1) a (b + 1) (zs Dm a (b + 1))) + (told M (i + 1) i a (b + 1) (zs Dm a (b + 1))))))), (5, .int (zI (i + 1)))]) dX0_doubtIfDrawn_58 5 rfl (by decide) [1, 2, 3, 4, 5, 0] rfl ?_
    refine j_goto (pc := 61) C 13 dX0_doubtIfDrawn_61 (by decide) ?_
    exact J.cast (hk_13 trivial) (by rfl) (by rw [zs_up _ 0 i h0_13]) rfl
  · intro hI_13
    try dsimp only at hI_13 ⊢
    refine j_iload (pc := 13) C dX0_doubtIfDrawn_13 5 rfl ?_
    refine j_aload_n (pc := 15) C dX0_doubtIfDrawn_15 0 rfl ?_
    refine j_get (pc := 16) C (ref := "GrainSilo") (T := TX0) (N := 15) hin 0 rfl rfl 2 (by decide) (C.w 1 rfl) rfl rfl dX0_doubtIfDrawn_16 ?_
    refine j_icmp_ge (pc := 19) C 64 dX0_doubtIfDrawn_19 (by decide) ⟨by omega, by omega⟩ ⟨by omega, by omega⟩ (fun c_19 => ?_) (fun c_19 => absurd c_19 (by omega))
    refine j_iload (pc := 64) C dX0_doubtIfDrawn_64 4 rfl ?_
    exact j_iret (pc := 66) C hr dX0_doubtIfDrawn_66 (by rfl) (by rfl) (by decide) (by decide)
set_option maxHeartbeats 4000000 in
set_option maxRecDepth 100000 in
theorem kX0_digestOf (l : Launch) (D : va_G) (c1 c2 c3 : ClassId) (a b : Int64)  : cL l yX0_digestOf wsX0_digestOf ({ frames := 0, cells := 0, slots := 0, locals := 0 }) D (tyS c1 c2 c3) [.long a, .long b] ([]) ([]) (a * 31 + b) 0 0 := by
  refine cL.of (cc := cX0_digestOf) (maxL := 4) (by decide) rfl (lv := [(0, .long a), (2, .long b)]) [0, 1] rfl (Nat.le_of_ble_eq_true rfl) ?_
  intro p e s m args below meth c A C hr
  have C : GC p s m args meth c cX0_digestOf 4 RX0 wsX0_digestOf D (tyS c1 c2 c3) A := C
  refine j_lload_n (pc := 0) C dX0_digestOf_0 0 rfl ?_
  refine j_ldc2 (pc := 1) C (C.w 1 rfl) dX0_digestOf_1 ?_
  refine j_lmul (pc := 4) C dX0_digestOf_4 ?_
  refine j_lload_n (pc := 5) C dX0_digestOf_5 1 rfl ?_
  refine j_ladd (pc := 6) C dX0_digestOf_6 ?_
  exact j_lret (pc := 7) C hr dX0_digestOf_7 (by rfl) (by rfl) (by decide) (by decide)
set_option maxHeartbeats 4000000 in
set_option maxRecDepth 100000 in
theorem kX0_digestOfLayers (l : Launch) (D : va_G) (h : Nat → Nat) (c1 c2 c3 : ClassId) (K Dm : Int → Int) (L : Int) (lo hi su db : Int → Int) (S dy li so sp : Int) (tu ah : Int → Int) (M : Int → Int → Int) (a : Int64) (hL0 : 0 ≤ L) (hL : L ≤ 12) : cL l yX0_digestOfLayers wsX0_digestOfLayers ({ frames := 1, cells := 0, slots := 0, locals := 23 }) D (tyS c1 c2 c3) [.ref (h 0), .long a] (wG h c1 c2 K Dm L lo hi su db S dy li so sp tu ah M) (wG h c1 c2 K Dm L lo hi su db S dy li so sp tu ah M) (dg (dgL K Dm M) a L) 0 0 := by
  refine cL.of (cc := cX0_digestOfLayers) (maxL := 6) (by decide) rfl (lv := [(0, .ref (h 0)), (1, .long a)]) [0, 1] rfl (Nat.le_of_ble_eq_true rfl) ?_
  intro p e s m args below meth c A C hr
  have C : GC p s m args meth c cX0_digestOfLayers 6 RX0 wsX0_digestOfLayers D (tyS c1 c2 c3) A := C
  have hin : ∀ w ∈ wsX00, w ∈ wsX0_digestOfLayers := fun _ h => List.mem_cons_of_mem _ (List.mem_append_right _ h)
  refine j_lload_n (pc := 0) C dX0_digestOfLayers_0 1 rfl ?_
  refine j_lstore_n (pc := 1) C (lv' := [(0, .ref (h 0)), (1, .long a), (3, .long a)]) dX0_digestOfLayers_1 (by decide) [1, 2, 0] rfl ?_
  refine j_iconst (pc := 2) C dX0_digestOfLayers_2 ?_
  refine j_istore (pc := 3) C (lv' := [(0, .ref (h 0)), (1, .long a), (3, .long a), (5, .int (zI 0))]) dX0_digestOfLayers_3 (by decide) [1, 2, 3, 0] rfl ?_
  refine J.cast (ws' := wG h c1 c2 K Dm L lo hi su db S dy li so sp tu ah M) (lv' := [(0, .ref (h 0)), (1, .long a), (3, .long (dg (dgL K Dm M) a 0)), (5, .int (zI 0))]) ?_ (by rfl) (by rfl) rfl
  refine j_up (fun i : Int => wG h c1 c2 K Dm L lo hi su db S dy li so sp tu ah M) (fun i : Int => [(0, .ref (h 0)), (1, .long a), (3, .long (dg (dgL K Dm M) a i)), (5, .int (zI i))]) (fun i : Int => True) 0 L (by omega) trivial ?_ ?_
  · intro i h0_5 h1_5 hI_5 hk_5
    try dsimp only at hI_5 hk_5 ⊢
    refine j_iload (pc := 5) C dX0_digestOfLayers_5 3 rfl ?_
    refine j_aload_n (pc := 7) C dX0_digestOfLayers_7 0 rfl ?_
    refine j_get (pc := 8) C (ref := "GrainSilo") (T := TX0) (N := 15) hin 0 rfl rfl 2 (by decide) (C.w 1 rfl) rfl rfl dX0_digestOfLayers_8 ?_
    refine j_icmp_ge (pc := 11) C 74 dX0_digestOfLayers_11 (by decide) ⟨by omega, by omega⟩ ⟨by omega, by omega⟩ (fun c_11 => absurd c_11 (by omega)) (fun c_11 => ?_)
    refine j_lload_n (pc := 14) C dX0_digestOfLayers_14 2 rfl ?_
    refine j_aload_n (pc := 15) C dX0_digestOfLayers_15 0 rfl ?_
    refine j_get (pc := 16) C (ref := "GrainSilo") (T := TX0) (N := 15) hin 0 rfl rfl 0 (by decide) (C.w 2 rfl) rfl rfl dX0_digestOfLayers_16 ?_
    refine j_iload (pc := 19) C dX0_digestOfLayers_19 3 rfl ?_
    refine j_iald (pc := 21) C 1 0 rfl rfl (by omega) (by omega) (by decide) dX0_digestOfLayers_21 ?_
    refine j_i2l (pc := 22) C dX0_digestOfLayers_22 ?_
    refine j_callSL (pc := 23) C (As := [.long (dg (dgL K Dm M) a i), .long ((zI (K i)).toInt64)]) (rest := []) (kX0_digestOf l D c1 c2 c3 (dg (dgL K Dm M) a i) ((zI (K i)).toInt64) ) (va_cwS 2 C.2.2.2.2.1 gX0_digestOfLayers_X0_digestOf rfl rfl rfl (by decide +kernel) ⟨Nat.le_of_ble_eq_true rfl, Nat.le_of_ble_eq_true rfl⟩) dX0_digestOfLayers_23 rfl rfl (Nat.le_of_ble_eq_true rfl) (by decide) ?_
    refine j_lstore_n (pc := 26) C (lv' := [(0, .ref (h 0)), (1, .long a), (3, .long ((dg (dgL K Dm M) a i) * 31 + ((zI (K i)).toInt64))), (5, .int (zI i))]) dX0_digestOfLayers_26 (by decide) [1, 2, 0, 3] rfl ?_
    refine j_lload_n (pc := 27) C dX0_digestOfLayers_27 2 rfl ?_
    refine j_aload_n (pc := 28) C dX0_digestOfLayers_28 0 rfl ?_
    refine j_get (pc := 29) C (ref := "GrainSilo") (T := TX0) (N := 15) hin 0 rfl rfl 1 (by decide) (C.w 3 rfl) rfl rfl dX0_digestOfLayers_29 ?_
    refine j_iload (pc := 32) C dX0_digestOfLayers_32 3 rfl ?_
    refine j_iald (pc := 34) C 2 0 rfl rfl (by omega) (by omega) (by decide) dX0_digestOfLayers_34 ?_
    refine j_i2l (pc := 35) C dX0_digestOfLayers_35 ?_
    refine j_callSL (pc := 36) C (As := [.long ((dg (dgL K Dm M) a i) * 31 + ((zI (K i)).toInt64)), .long ((zI (Dm i)).toInt64)]) (rest := []) (kX0_digestOf l D c1 c2 c3 ((dg (dgL K Dm M) a i) * 31 + ((zI (K i)).toInt64)) ((zI (Dm i)).toInt64) ) (va_cwS 2 C.2.2.2.2.1 gX0_digestOfLayers_X0_digestOf rfl rfl rfl (by decide +kernel) ⟨Nat.le_of_ble_eq_true rfl, Nat.le_of_ble_eq_true rfl⟩) dX0_digestOfLayers_36 rfl rfl (Nat.le_of_ble_eq_true rfl) (by decide) ?_
    refine j_lstore_n (pc := 39) C (lv' := [(0, .ref (h 0)), (1, .long a), (3, .long (((dg (dgL K Dm M) a i) * 31 + ((zI (K i)).toInt64)) * 31 + ((zI (Dm i)).toInt64))), (5, .int (zI i))]) dX0_digestOfLayers_39 (by decide) [1, 2, 0, 3] rfl ?_
    refine j_lload_n (pc := 40) C dX0_digestOfLayers_40 2 rfl ?_
    refine j_aload_n (pc := 41) C dX0_digestOfLayers_41 0 rfl ?_
    refine j_iload (pc := 42) C dX0_digestOfLayers_42 3 rfl ?_
    refine j_iload (pc := 44) C dX0_digestOfLayers_44 3 rfl ?_
    refine j_callI (pc := 46) C (As := [.int (zI i), .int (zI i)]) (rest := [.long (((dg (dgL K Dm M) a i) * 31 + ((zI (K i)).toInt64)) * 31 + ((zI (Dm i)).toInt64))]) (kX0_least l D h c1 c2 c3 K Dm L lo hi su db S dy li so sp tu ah M i i (by omega) (by omega) (by omega) (by omega)) (cwV 2 C.2.2.2.2.1 gX0_digestOfLayers_X0_least rfl rfl rfl (by decide +kernel) ⟨Nat.le_of_ble_eq_true rfl, Nat.le_of_ble_eq_true rfl⟩) 0 (ci := 0) rfl rfl rfl dX0_digestOfLayers_46 rfl rfl (Nat.le_of_ble_eq_true rfl) (by decide) ?_
    refine j_i2l (pc := 49) C dX0_digestOfLayers_49 ?_
    refine j_callSL (pc := 50) C (As := [.long (((dg (dgL K Dm M) a i) * 31 + ((zI (K i)).toInt64)) * 31 + ((zI (Dm i)).toInt64)), .long ((zI (-(M (i + 1) i))).toInt64)]) (rest := []) (kX0_digestOf l D c1 c2 c3 (((dg (dgL K Dm M) a i) * 31 + ((zI (K i)).toInt64)) * 31 + ((zI (Dm i)).toInt64)) ((zI (-(M (i + 1) i))).toInt64) ) (va_cwS 2 C.2.2.2.2.1 gX0_digestOfLayers_X0_digestOf rfl rfl rfl (by decide +kernel) ⟨Nat.le_of_ble_eq_true rfl, Nat.le_of_ble_eq_true rfl⟩) dX0_digestOfLayers_50 rfl rfl (Nat.le_of_ble_eq_true rfl) (by decide) ?_
    refine j_lstore_n (pc := 53) C (lv' := [(0, .ref (h 0)), (1, .long a), (3, .long ((((dg (dgL K Dm M) a i) * 31 + ((zI (K i)).toInt64)) * 31 + ((zI (Dm i)).toInt64)) * 31 + ((zI (-(M (i + 1) i))).toInt64))), (5, .int (zI i))]) dX0_digestOfLayers_53 (by decide) [1, 2, 0, 3] rfl ?_
    refine j_lload_n (pc := 54) C dX0_digestOfLayers_54 2 rfl ?_
    refine j_aload_n (pc := 55) C dX0_digestOfLayers_55 0 rfl ?_
    refine j_iload (pc := 56) C dX0_digestOfLayers_56 3 rfl ?_
    refine j_iload (pc := 58) C dX0_digestOfLayers_58 3 rfl ?_
    refine j_callI (pc := 60) C (As := [.int (zI i), .int (zI i)]) (rest := [.long ((((dg (dgL K Dm M) a i) * 31 + ((zI (K i)).toInt64)) * 31 + ((zI (Dm i)).toInt64)) * 31 + ((zI (-(M (i + 1) i))).toInt64))]) (kX0_greatest l D h c1 c2 c3 K Dm L lo hi su db S dy li so sp tu ah M i i (by omega) (by omega) (by omega) (by omega)) (cwV 2 C.2.2.2.2.1 gX0_digestOfLayers_X0_greatest rfl rfl rfl (by decide +kernel) ⟨Nat.le_of_ble_eq_true rfl, Nat.le_of_ble_eq_true rfl⟩) 0 (ci := 0) rfl rfl rfl dX0_digestOfLayers_60 rfl rfl (Nat.le_of_ble_eq_true rfl) (by decide) ?_
    refine j_i2l (pc := 63) C dX0_digestOfLayers_63 ?_
    refine j_callSL (pc := 64) C (As := [.long ((((dg (dgL K Dm M) a i) * 31 + ((zI (K i)).toInt64)) * 31 + ((zI (Dm i)).toInt64)) * 31 + ((zI (-(M (i + 1) i))).toInt64)), .long ((zI (M i (i + 1))).toInt64)]) (rest := []) (kX0_digestOf l D c1 c2 c3 ((((dg (dgL K Dm M) a i) * 31 + ((zI (K i)).toInt64)) * 31 + ((zI (Dm i)).toInt64)) * 31 + ((zI (-(M (i + 1) i))).toInt64)) ((zI (M i (i + 1))).toInt64) ) (va_cwS 2 C.2.2.2.2.1 gX0_digestOfLayers_X0_digestOf rfl rfl rfl (by decide +kernel) ⟨Nat.le_of_ble_eq_true rfl, Nat.le_of_ble_eq_true rfl⟩) dX0_digestOfLayers_64 rfl rfl (Nat.le_of_ble_eq_true rfl) (by decide) ?_
    refine j_lstore_n (pc := 67) C (lv' := [(0, .ref (h 0)), (1, .long a), (3, .long (((((dg (dgL K Dm M) a i) * 31 + ((zI (K i)).toInt64)) * 31 + ((zI (Dm i)).toInt64)) * 31 + ((zI (-(M (i + 1) i))).toInt64)) * 31 + ((zI (M i (i + 1))).toInt64))), (5, .int (zI i))]) dX0_digestOfLayers_67 (by decide) [1, 2, 0, 3] rfl ?_
    refine j_iinc (pc := 68) C (lv' := [(0, .ref (h 0)), (1, .long a), (3, .long (((((dg (dgL K Dm M) a i) * 31 + ((zI (K i)).toInt64)) * 31 + ((zI (Dm i)).toInt64)) * 31 + ((zI (-(M (i + 1) i))).toInt64)) * 31 + ((zI (M i (i + 1))).toInt64))), (5, .int (zI (i + 1)))]) dX0_digestOfLayers_68 3 rfl (by decide) [1, 2, 3, 0] rfl ?_
    refine j_goto (pc := 71) C 5 dX0_digestOfLayers_71 (by decide) ?_
    exact J.cast (hk_5 trivial) (by rfl) (by rw [dg_up _ _ i h0_5]; rfl) rfl
  · intro hI_5
    try dsimp only at hI_5 ⊢
    refine j_iload (pc := 5) C dX0_digestOfLayers_5 3 rfl ?_
    refine j_aload_n (pc := 7) C dX0_digestOfLayers_7 0 rfl ?_
    refine j_get (pc := 8) C (ref := "GrainSilo") (T := TX0) (N := 15) hin 0 rfl rfl 2 (by decide) (C.w 1 rfl) rfl rfl dX0_digestOfLayers_8 ?_
    refine j_icmp_ge (pc := 11) C 74 dX0_digestOfLayers_11 (by decide) ⟨by omega, by omega⟩ ⟨by omega, by omega⟩ (fun c_11 => ?_) (fun c_11 => absurd c_11 (by omega))
    refine j_lload_n (pc := 74) C dX0_digestOfLayers_74 2 rfl ?_
    exact j_lret (pc := 75) C hr dX0_digestOfLayers_75 (by rfl) (by rfl) (by decide) (by decide)
set_option maxHeartbeats 4000000 in
set_option maxRecDepth 100000 in
theorem kX0_digestOfSamples (l : Launch) (D : va_G) (h : Nat → Nat) (c1 c2 c3 : ClassId) (K Dm : Int → Int) (L : Int) (lo hi su db : Int → Int) (S dy li so sp : Int) (tu ah : Int → Int) (M : Int → Int → Int) (a : Int64) (hS0 : 0 ≤ S) (hS : S ≤ 16) : cL l yX0_digestOfSamples wsX0_digestOfSamples ({ frames := 1, cells := 0, slots := 0, locals := 23 }) D (tyS c1 c2 c3) [.ref (h 0), .long a] (wG h c1 c2 K Dm L lo hi su db S dy li so sp tu ah M) (wG h c1 c2 K Dm L lo hi su db S dy li so sp tu ah M) (dg (dgS lo hi su db) a S) 0 0 := by
  refine cL.of (cc := cX0_digestOfSamples) (maxL := 6) (by decide) rfl (lv := [(0, .ref (h 0)), (1, .long a)]) [0, 1] rfl (Nat.le_of_ble_eq_true rfl) ?_
  intro p e s m args below meth c A C hr
  have C : GC p s m args meth c cX0_digestOfSamples 6 RX0 wsX0_digestOfSamples D (tyS c1 c2 c3) A := C
  have hin : ∀ w ∈ wsX00, w ∈ wsX0_digestOfSamples := fun _ h => List.mem_cons_of_mem _ (List.mem_append_right _ h)
  refine j_lload_n (pc := 0) C dX0_digestOfSamples_0 1 rfl ?_
  refine j_lstore_n (pc := 1) C (lv' := [(0, .ref (h 0)), (1, .long a), (3, .long a)]) dX0_digestOfSamples_1 (by decide) [1, 2, 0] rfl ?_
  refine j_iconst (pc := 2) C dX0_digestOfSamples_2 ?_
  refine j_istore (pc := 3) C (lv' := [(0, .ref (h 0)), (1, .long a), (3, .long a), (5, .int (zI 0))]) dX0_digestOfSamples_3 (by decide) [1, 2, 3, 0] rfl ?_
  refine J.cast (ws' := wG h c1 c2 K Dm L lo hi su db S dy li so sp tu ah M) (lv' := [(0, .ref (h 0)), (1, .long a), (3, .long (dg (dgS lo hi su db) a 0)), (5, .int (zI 0))]) ?_ (by rfl) (by rfl) rfl
  refine j_up (fun i : Int => wG h c1 c2 K Dm L lo hi su db S dy li so sp tu ah M) (fun i : Int => [(0, .ref (h 0)), (1, .long a), (3, .long (dg (dgS lo hi su db) a i)), (5, .int (zI i))]) (fun i : Int => True) 0 S (by omega) trivial ?_ ?_
  · intro i h0_5 h1_5 hI_5 hk_5
    try dsimp only at hI_5 hk_5 ⊢
    refine j_iload (pc := 5) C dX0_digestOfSamples_5 3 rfl ?_
    refine j_aload_n (pc := 7) C dX0_digestOfSamples_7 0 rfl ?_
    refine j_get (pc := 8) C (ref := "GrainSilo") (T := TX0) (N := 15) hin 0 rfl rfl 7 (by decide) (C.w 1 rfl) rfl rfl dX0_digestOfSamples_8 ?_
    refine j_icmp_ge (pc := 11) C 72 dX0_digestOfSamples_11 (by decide) ⟨by omega, by omega⟩ ⟨by omega, by omega⟩ (fun c_11 => absurd c_11 (by omega)) (fun c_11 => ?_)
    refine j_lload_n (pc := 14) C dX0_digestOfSamples_14 2 rfl ?_
    refine j_aload_n (pc := 15) C dX0_digestOfSamples_15 0 rfl ?_
    refine j_get (pc := 16) C (ref := "GrainSilo") (T := TX0) (N := 15) hin 0 rfl rfl 3 (by decide) (C.w 2 rfl) rfl rfl dX0_digestOfSamples_16 ?_
    refine j_iload (pc := 19) C dX0_digestOfSamples_19 3 rfl ?_
    refine j_iald (pc := 21) C 3 0 rfl rfl (by omega) (by omega) (by decide) dX0_digestOfSamples_21 ?_
    refine j_i2l (pc := 22) C dX0_digestOfSamples_22 ?_
    refine j_callSL (pc := 23) C (As := [.long (dg (dgS lo hi su db) a i), .long ((zI (lo i)).toInt64)]) (rest := []) (kX0_digestOf l D c1 c2 c3 (dg (dgS lo hi su db) a i) ((zI (lo i)).toInt64) ) (va_cwS 2 C.2.2.2.2.1 gX0_digestOfSamples_X0_digestOf rfl rfl rfl (by decide +kernel) ⟨Nat.le_of_ble_eq_true rfl, Nat.le_of_ble_eq_true rfl⟩) dX0_digestOfSamples_23 rfl rfl (Nat.le_of_ble_eq_true rfl) (by decide) ?_
    refine j_lstore_n (pc := 26) C (lv' := [(0, .ref (h 0)), (1, .long a), (3, .long ((dg (dgS lo hi su db) a i) * 31 + ((zI (lo i)).toInt64))), (5, .int (zI i))]) dX0_digestOfSamples_26 (by decide) [1, 2, 0, 3] rfl ?_
    refine j_lload_n (pc := 27) C dX0_digestOfSamples_27 2 rfl ?_
    refine j_aload_n (pc := 28) C dX0_digestOfSamples_28 0 rfl ?_
    refine j_get (pc := 29) C (ref := "GrainSilo") (T := TX0) (N := 15) hin 0 rfl rfl 4 (by decide) (C.w 3 rfl) rfl rfl dX0_digestOfSamples_29 ?_
    refine j_iload (pc := 32) C dX0_digestOfSamples_32 3 rfl ?_
    refine j_iald (pc := 34) C 4 0 rfl rfl (by omega) (by omega) (by decide) dX0_digestOfSamples_34 ?_
    refine j_i2l (pc := 35) C dX0_digestOfSamples_35 ?_
    refine j_callSL (pc := 36) C (As := [.long ((dg (dgS lo hi su db) a i) * 31 + ((zI (lo i)).toInt64)), .long ((zI (hi i)).toInt64)]) (rest := []) (kX0_digestOf l D c1 c2 c3 ((dg (dgS lo hi su db) a i) * 31 + ((zI (lo i)).toInt64)) ((zI (hi i)).toInt64) ) (va_cwS 2 C.2.2.2.2.1 gX0_digestOfSamples_X0_digestOf rfl rfl rfl (by decide +kernel) ⟨Nat.le_of_ble_eq_true rfl, Nat.le_of_ble_eq_true rfl⟩) dX0_digestOfSamples_36 rfl rfl (Nat.le_of_ble_eq_true rfl) (by decide) ?_
    refine j_lstore_n (pc := 39) C (lv' := [(0, .ref (h 0)), (1, .long a), (3, .long (((dg (dgS lo hi su db) a i) * 31 + ((zI (lo i)).toInt64)) * 31 + ((zI (hi i)).toInt64))), (5, .int (zI i))]) dX0_digestOfSamples_39 (by decide) [1, 2, 0, 3] rfl ?_
    refine j_lload_n (pc := 40) C dX0_digestOfSamples_40 2 rfl ?_
    refine j_aload_n (pc := 41) C dX0_digestOfSamples_41 0 rfl ?_
    refine j_get (pc := 42) C (ref := "GrainSilo") (T := TX0) (N := 15) hin 0 rfl rfl 5 (by decide) (C.w 4 rfl) rfl rfl dX0_digestOfSamples_42 ?_
    refine j_iload (pc := 45) C dX0_digestOfSamples_45 3 rfl ?_
    refine j_iald (pc := 47) C 5 0 rfl rfl (by omega) (by omega) (by decide) dX0_digestOfSamples_47 ?_
    refine j_i2l (pc := 48) C dX0_digestOfSamples_48 ?_
    refine j_callSL (pc := 49) C (As := [.long (((dg (dgS lo hi su db) a i) * 31 + ((zI (lo i)).toInt64)) * 31 + ((zI (hi i)).toInt64)), .long ((zI (su i)).toInt64)]) (rest := []) (kX0_digestOf l D c1 c2 c3 (((dg (dgS lo hi su db) a i) * 31 + ((zI (lo i)).toInt64)) * 31 + ((zI (hi i)).toInt64)) ((zI (su i)).toInt64) ) (va_cwS 2 C.2.2.2.2.1 gX0_digestOfSamples_X0_digestOf rfl rfl rfl (by decide +kernel) ⟨Nat.le_of_ble_eq_true rfl, Nat.le_of_ble_eq_true rfl⟩) dX0_digestOfSamples_49 rfl rfl (Nat.le_of_ble_eq_true rfl) (by decide) ?_
    refine j_lstore_n (pc := 52) C (lv' := [(0, .ref (h 0)), (1, .long a), (3, .long ((((dg (dgS lo hi su db) a i) * 31 + ((zI (lo i)).toInt64)) * 31 + ((zI (hi i)).toInt64)) * 31 + ((zI (su i)).toInt64))), (5, .int (zI i))]) dX0_digestOfSamples_52 (by decide) [1, 2, 0, 3] rfl ?_
    refine j_lload_n (pc := 53) C dX0_digestOfSamples_53 2 rfl ?_
    refine j_aload_n (pc := 54) C dX0_digestOfSamples_54 0 rfl ?_
    refine j_get (pc := 55) C (ref := "GrainSilo") (T := TX0) (N := 15) hin 0 rfl rfl 6 (by decide) (C.w 5 rfl) rfl rfl dX0_digestOfSamples_55 ?_
    refine j_iload (pc := 58) C dX0_digestOfSamples_58 3 rfl ?_
    refine j_iald (pc := 60) C 6 0 rfl rfl (by omega) (by omega) (by decide) dX0_digestOfSamples_60 ?_
    refine j_i2l (pc := 61) C dX0_digestOfSamples_61 ?_
    refine j_callSL (pc := 62) C (As := [.long ((((dg (dgS lo hi su db) a i) * 31 + ((zI (lo i)).toInt64)) * 31 + ((zI (hi i)).toInt64)) * 31 + ((zI (su i)).toInt64)), .long ((zI (db i)).toInt64)]) (rest := []) (kX0_digestOf l D c1 c2 c3 ((((dg (dgS lo hi su db) a i) * 31 + ((zI (lo i)).toInt64)) * 31 + ((zI (hi i)).toInt64)) * 31 + ((zI (su i)).toInt64)) ((zI (db i)).toInt64) ) (va_cwS 2 C.2.2.2.2.1 gX0_digestOfSamples_X0_digestOf rfl rfl rfl (by decide +kernel) ⟨Nat.le_of_ble_eq_true rfl, Nat.le_of_ble_eq_true rfl⟩) dX0_digestOfSamples_62 rfl rfl (Nat.le_of_ble_eq_true rfl) (by decide) ?_
    refine j_lstore_n (pc := 65) C (lv' := [(0, .ref (h 0)), (1, .long a), (3, .long (((((dg (dgS lo hi su db) a i) * 31 + ((zI (lo i)).toInt64)) * 31 + ((zI (hi i)).toInt64)) * 31 + ((zI (su i)).toInt64)) * 31 + ((zI (db i)).toInt64))), (5, .int (zI i))]) dX0_digestOfSamples_65 (by decide) [1, 2, 0, 3] rfl ?_
    refine j_iinc (pc := 66) C (lv' := [(0, .ref (h 0)), (1, .long a), (3, .long (((((dg (dgS lo hi su db) a i) * 31 + ((zI (lo i)).toInt64)) * 31 + ((zI (hi i)).toInt64)) * 31 + ((zI (su i)).toInt64)) * 31 + ((zI (db i)).toInt64))), (5, .int (zI (i + 1)))]) dX0_digestOfSamples_66 3 rfl (by decide) [1, 2, 3, 0] rfl ?_
    refine j_goto (pc := 69) C 5 dX0_digestOfSamples_69 (by decide) ?_
    exact J.cast (hk_5 trivial) (by rfl) (by rw [dg_up _ _ i h0_5]; rfl) rfl
  · intro hI_5
    try dsimp only at hI_5 ⊢
    refine j_iload (pc := 5) C dX0_digestOfSamples_5 3 rfl ?_
    refine j_aload_n (pc := 7) C dX0_digestOfSamples_7 0 rfl ?_
    refine j_get (pc := 8) C (ref := "GrainSilo") (T := TX0) (N := 15) hin 0 rfl rfl 7 (by decide) (C.w 1 rfl) rfl rfl dX0_digestOfSamples_8 ?_
    refine j_icmp_ge (pc := 11) C 72 dX0_digestOfSamples_11 (by decide) ⟨by omega, by omega⟩ ⟨by omega, by omega⟩ (fun c_11 => ?_) (fun c_11 => absurd c_11 (by omega))
    refine j_lload_n (pc := 72) C dX0_digestOfSamples_72 2 rfl ?_
    exact j_lret (pc := 73) C hr dX0_digestOfSamples_73 (by rfl) (by rfl) (by decide) (by decide)
set_option maxHeartbeats 4000000 in
set_option maxRecDepth 100000 in
theorem kX0_checkDays (l : Launch) (D : va_G) (c1 c2 c3 : ClassId) (a : Int) (h0 : 1 ≤ a) (h1 : a ≤ 50) : cV l yX0_checkDays wsX0_checkDays ({ frames := 0, cells := 0, slots := 0, locals := 0 }) D (tyS c1 c2 c3) [.int (zI a)] ([]) ([]) 0 0 := by
  refine cV.of (cc := cX0_checkDays) (maxL := 1) (by decide) rfl (lv := [(0, .int (zI a))]) [0] rfl (Nat.le_of_ble_eq_true rfl) ?_
  intro p e s m args below meth c A C hr
  have C : GC p s m args meth c cX0_checkDays 1 RX0 wsX0_checkDays D (tyS c1 c2 c3) A := C
  refine j_iload_n (pc := 0) C dX0_checkDays_0 0 rfl ?_
  refine j_iconst (pc := 1) C dX0_checkDays_1 ?_
  refine j_icmp_lt (pc := 2) C 11 dX0_checkDays_2 (by decide) ⟨by omega, by omega⟩ ⟨by omega, by omega⟩ (fun c_2 => absurd c_2 (by omega)) (fun c_2 => ?_)
  refine j_iload_n (pc := 5) C dX0_checkDays_5 0 rfl ?_
  refine j_bipush (pc := 6) C dX0_checkDays_6 (by decide +kernel) ?_
  refine j_icmp_le (pc := 8) C 21 dX0_checkDays_8 (by decide) ⟨by omega, by omega⟩ ⟨by omega, by omega⟩ (fun c_8 => ?_) (fun c_8 => absurd c_8 (by omega))
  exact j_vret (pc := 21) C hr dX0_checkDays_21 (by rfl) (by decide) (by decide)
set_option maxHeartbeats 4000000 in
set_option maxRecDepth 100000 in
theorem kX0_checkLayer (l : Launch) (D : va_G) (h : Nat → Nat) (c1 c2 c3 : ClassId) (K Dm : Int → Int) (L : Int) (lo hi su db : Int → Int) (S dy li so sp : Int) (tu ah : Int → Int) (M : Int → Int → Int) (a : Int) (h0 : 0 ≤ a) (h1 : a < L) (h2 : L ≤ 12) : cV l yX0_checkLayer wsX0_checkLayer ({ frames := 0, cells := 0, slots := 0, locals := 0 }) D (tyS c1 c2 c3) [.ref (h 0), .int (zI a)] (wG h c1 c2 K Dm L lo hi su db S dy li so sp tu ah M) (wG h c1 c2 K Dm L lo hi su db S dy li so sp tu ah M) 0 0 := by
  refine cV.of (cc := cX0_checkLayer) (maxL := 2) (by decide) rfl (lv := [(0, .ref (h 0)), (1, .int (zI a))]) [0, 1] rfl (Nat.le_of_ble_eq_true rfl) ?_
  intro p e s m args below meth c A C hr
  have C : GC p s m args meth c cX0_checkLayer 2 RX0 wsX0_checkLayer D (tyS c1 c2 c3) A := C
  have hin : ∀ w ∈ wsX00, w ∈ wsX0_checkLayer := fun _ h => List.mem_cons_of_mem _ (List.mem_append_left _ (List.mem_append_right _ h))
  refine j_iload_n (pc := 0) C dX0_checkLayer_0 1 rfl ?_
  refine j_if_lt (pc := 1) C 12 dX0_checkLayer_1 (by decide) ⟨by omega, by omega⟩ (fun c_1 => absurd c_1 (by omega)) (fun c_1 => ?_)
  refine j_iload_n (pc := 4) C dX0_checkLayer_4 1 rfl ?_
  refine j_aload_n (pc := 5) C dX0_checkLayer_5 0 rfl ?_
  refine j_get (pc := 6) C (ref := "GrainSilo") (T := TX0) (N := 15) hin 0 rfl rfl 2 (by decide) (C.w 3 rfl) rfl rfl dX0_checkLayer_6 ?_
  refine j_icmp_lt (pc := 9) C 22 dX0_checkLayer_9 (by decide) ⟨by omega, by omega⟩ ⟨by omega, by omega⟩ (fun c_9 => ?_) (fun c_9 => absurd c_9 (by omega))
  exact j_vret (pc := 22) C hr dX0_checkLayer_22 (by rfl) (by decide) (by decide)
set_option maxHeartbeats 4000000 in
set_option maxRecDepth 100000 in
theorem kX0_checkLayers (l : Launch) (D : va_G) (h : Nat → Nat) (c1 c2 c3 : ClassId) (K Dm : Int → Int) (L : Int) (lo hi su db : Int → Int) (S dy li so sp : Int) (tu ah : Int → Int) (M : Int → Int → Int) (a b : Int) (h0 : 0 ≤ a) (h1 : a ≤ b) (h2 : b < L) (h3 : L ≤ 12) : cV l yX0_checkLayers wsX0_checkLayers ({ frames := 0, cells := 0, slots := 0, locals := 0 }) D (tyS c1 c2 c3) [.ref (h 0), .int (zI a), .int (zI b)] (wG h c1 c2 K Dm L lo hi su db S dy li so sp tu ah M) (wG h c1 c2 K Dm L lo hi su db S dy li so sp tu ah M) 0 0 := by
  refine cV.of (cc := cX0_checkLayers) (maxL := 3) (by decide) rfl (lv := [(0, .ref (h 0)), (1, .int (zI a)), (2, .int (zI b))]) [0, 1, 2] rfl (Nat.le_of_ble_eq_true rfl) ?_
  intro p e s m args below meth c A C hr
  have C : GC p s m args meth c cX0_checkLayers 3 RX0 wsX0_checkLayers D (tyS c1 c2 c3) A := C
  have hin : ∀ w ∈ wsX00, w ∈ wsX0_checkLayers := fun _ h => List.mem_cons_of_mem _ (List.mem_append_left _ (List.mem_append_right _ h))
  refine j_iload_n (pc := 0) C dX0_checkLayers_0 1 rfl ?_
  refine j_if_lt (pc := 1) C 17 dX0_checkLayers_1 (by decide) ⟨by omega, by omega⟩ (fun c_1 => absurd c_1 (by omega)) (fun c_1 => ?_)
  refine j_iload_n (pc := 4) C dX0_checkLayers_4 2 rfl ?_
  refine j_aload_n (pc := 5) C dX0_checkLayers_5 0 rfl ?_
  refine j_get (pc := 6) C (ref := "GrainSilo") (T := TX0) (N := 15) hin 0 rfl rfl 2 (by decide) (C.w 3 rfl) rfl rfl dX0_checkLayers_6 ?_
  refine j_icmp_ge (pc := 9) C 17 dX0_checkLayers_9 (by decide) ⟨by omega, by omega⟩ ⟨by omega, by omega⟩ (fun c_9 => absurd c_9 (by omega)) (fun c_9 => ?_)
  refine j_iload_n (pc := 12) C dX0_checkLayers_12 1 rfl ?_
  refine j_iload_n (pc := 13) C dX0_checkLayers_13 2 rfl ?_
  refine j_icmp_le (pc := 14) C 27 dX0_checkLayers_14 (by decide) ⟨by omega, by omega⟩ ⟨by omega, by omega⟩ (fun c_14 => ?_) (fun c_14 => absurd c_14 (by omega))
  exact j_vret (pc := 27) C hr dX0_checkLayers_27 (by rfl) (by decide) (by decide)
set_option maxHeartbeats 4000000 in
set_option maxRecDepth 100000 in
theorem kX0_checkSample (l : Launch) (D : va_G) (h : Nat → Nat) (c1 c2 c3 : ClassId) (K Dm : Int → Int) (L : Int) (lo hi su db : Int → Int) (S dy li so sp : Int) (tu ah : Int → Int) (M : Int → Int → Int) (a : Int) (h0 : 0 ≤ a) (h1 : a < S) (h2 : S ≤ 16) : cV l yX0_checkSample wsX0_checkSample ({ frames := 0, cells := 0, slots := 0, locals := 0 }) D (tyS c1 c2 c3) [.ref (h 0), .int (zI a)] (wG h c1 c2 K Dm L lo hi su db S dy li so sp tu ah M) (wG h c1 c2 K Dm L lo hi su db S dy li so sp tu ah M) 0 0 := by
  refine cV.of (cc := cX0_checkSample) (maxL := 2) (by decide) rfl (lv := [(0, .ref (h 0)), (1, .int (zI a))]) [0, 1] rfl (Nat.le_of_ble_eq_true rfl) ?_
  intro p e s m args below meth c A C hr
  have C : GC p s m args meth c cX0_checkSample 2 RX0 wsX0_checkSample D (tyS c1 c2 c3) A := C
  have hin : ∀ w ∈ wsX00, w ∈ wsX0_checkSample := fun _ h => List.mem_cons_of_mem _ (List.mem_append_left _ (List.mem_append_right _ h))
  refine j_iload_n (pc := 0) C dX0_checkSample_0 1 rfl ?_
  refine j_if_lt (pc := 1) C 12 dX0_checkSample_1 (by decide) ⟨by omega, by omega⟩ (fun c_1 => absurd c_1 (by omega)) (fun c_1 => ?_)
  refine j_iload_n (pc := 4) C dX0_checkSample_4 1 rfl ?_
  refine j_aload_n (pc := 5) C dX0_checkSample_5 0 rfl ?_
  refine j_get (pc := 6) C (ref := "GrainSilo") (T := TX0) (N := 15) hin 0 rfl rfl 7 (by decide) (C.w 3 rfl) rfl rfl dX0_checkSample_6 ?_
  refine j_icmp_lt (pc := 9) C 22 dX0_checkSample_9 (by decide) ⟨by omega, by omega⟩ ⟨by omega, by omega⟩ (fun c_9 => ?_) (fun c_9 => absurd c_9 (by omega))
  exact j_vret (pc := 22) C hr dX0_checkSample_22 (by rfl) (by decide) (by decide)
set_option maxHeartbeats 4000000 in
set_option maxRecDepth 100000 in
theorem kX0_checkNotEmpty (l : Launch) (D : va_G) (h : Nat → Nat) (c1 c2 c3 : ClassId) (K Dm : Int → Int) (L : Int) (lo hi su db : Int → Int) (S dy li so sp : Int) (tu ah : Int → Int) (M : Int → Int → Int) (h0 : 0 < L) (h1 : L ≤ 12) : cV l yX0_checkNotEmpty wsX0_checkNotEmpty ({ frames := 0, cells := 0, slots := 0, locals := 0 }) D (tyS c1 c2 c3) [.ref (h 0)] (wG h c1 c2 K Dm L lo hi su db S dy li so sp tu ah M) (wG h c1 c2 K Dm L lo hi su db S dy li so sp tu ah M) 0 0 := by
  refine cV.of (cc := cX0_checkNotEmpty) (maxL := 1) (by decide) rfl (lv := [(0, .ref (h 0))]) [0] rfl (Nat.le_of_ble_eq_true rfl) ?_
  intro p e s m args below meth c A C hr
  have C : GC p s m args meth c cX0_checkNotEmpty 1 RX0 wsX0_checkNotEmpty D (tyS c1 c2 c3) A := C
  have hin : ∀ w ∈ wsX00, w ∈ wsX0_checkNotEmpty := fun _ h => List.mem_cons_of_mem _ (List.mem_append_left _ (List.mem_append_right _ h))
  refine j_aload_n (pc := 0) C dX0_checkNotEmpty_0 0 rfl ?_
  refine j_get (pc := 1) C (ref := "GrainSilo") (T := TX0) (N := 15) hin 0 rfl rfl 2 (by decide) (C.w 3 rfl) rfl rfl dX0_checkNotEmpty_1 ?_
  refine j_if_ne (pc := 4) C 17 dX0_checkNotEmpty_4 (by decide) ⟨by omega, by omega⟩ (fun c_4 => ?_) (fun c_4 => absurd c_4 (by omega))
  exact j_vret (pc := 17) C hr dX0_checkNotEmpty_17 (by rfl) (by decide) (by decide)
