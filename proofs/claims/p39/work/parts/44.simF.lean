/-! ===== the law: all at once ===== -/
set_option maxHeartbeats 4000000 in
set_option maxRecDepth 100000 in
theorem kL_isSoAtOnce (l : Launch) (D : va_G) (c1 c2 c3 : ClassId) (h : Nat → Nat) (K Dm : Int → Int) (L : Int) (lo hi su db : Int → Int) (S dy li so sp : Int) (tu ah : Int → Int) (M : Int → Int → Int) (a : Int) (hok : okS Dm L lo hi su db S) (h0 : 0 ≤ a) (h1 : a ≤ L) : eI l yL_isSoAtOnce wsL_isSoAtOnce ({ frames := 4, cells := 1, slots := 13, locals := 91 }) D (tyS c1 c2 c3) [.ref (h 0), .int (zI a)] (wG h c1 c2 K Dm L lo hi su db S dy li so sp tu ah M) E1 (fun (u9 : Int → Int → Int) => True) (fun (u9 : Int → Int → Int) => wG h c1 c2 K Dm L lo hi su db S dy li so sp tu ah u9) (fun (u9 : Int → Int → Int) => zI 1) 1 13 := by
  refine eI.of (cc := cL_isSoAtOnce) (maxL := 5) (ret := .boolean) (by decide) rfl (lv := [(0, .ref (h 0)), (1, .int (zI a))]) [0, 1] rfl (Nat.le_of_ble_eq_true rfl) ?_
  intro p e s m args below meth c A C hr hE hAw
  have ho : va_AOA .int s := hE
  have C : GC p s m args meth c cL_isSoAtOnce 5 RL wsL_isSoAtOnce D (tyS c1 c2 c3) A := C
  obtain ⟨⟨hL0, hL⟩, ⟨hS0, hS⟩, hf, hs⟩ := id hok
  have hB := wz_B hok
  have hE9 := wz_E hok
  have hT := wz_T hok
  refine J.cast (ws' := wG h c1 c2 K Dm L lo hi su db S dy li so sp tu ah M ++ ([])) (lv' := [(0, .ref (h 0)), (1, .int (zI a))]) (st' := []) ?_ (by rw [List.append_nil]) rfl rfl
  refine j_aload_n (pc := 0) C dL_isSoAtOnce_0 0 rfl ?_
  refine j_callPI (pc := 1) C (As := []) (rest := []) (wr := []) (kX0_layers l D h c1 c2 c3 K Dm L lo hi su db S dy li so sp tu ah M  ) (cwV 0 C.2.2.2.2.1 gL_isSoAtOnce_X0_layers rfl rfl rfl (by decide +kernel) ⟨Nat.le_of_ble_eq_true rfl, Nat.le_of_ble_eq_true rfl⟩) 0 (ci := 0) rfl rfl rfl dL_isSoAtOnce_1 rfl rfl (Nat.le_of_ble_eq_true rfl) ⟨(by show _ ≤ 1; omega), (by show _ ≤ 13; omega)⟩ ?_
  refine j_istore_n (pc := 4) C (lv' := [(0, .ref (h 0)), (1, .int (zI a)), (2, .int (zI L))]) dL_isSoAtOnce_4 (by decide) [1, 2, 0] rfl ?_
  refine j_iload_n (pc := 5) C dL_isSoAtOnce_5 2 rfl ?_
  refine j_iconst (pc := 6) C dL_isSoAtOnce_6 ?_
  refine j_iadd (pc := 7) C dL_isSoAtOnce_7 ?_
  refine j_newI (pc := 8) C (C.w 1 rfl) 0 rfl (n := (L + 1).toNat) (by omega) (by omega) (by show _ ≤ 1; omega) (by show _ ≤ 13; omega) dL_isSoAtOnce_8 (fun q1_ => ?_)
  refine J.perm (ws' := wG h c1 c2 K Dm L lo hi su db S dy li so sp tu ah M ++ (gA c1 q1_ ((L + 1).toNat) (fun _ => 0) ++ ([]))) (List.Perm.trans (List.Perm.of_eq (show _ = (wG h c1 c2 K Dm L lo hi su db S dy li so sp tu ah M ++ ([])) ++ (gA c1 q1_ ((L + 1).toNat) (fun _ => 0)) from rfl)) (perm_of_count (fun cnt h1_ h0_ => by simp only [wU, wS, wGS, h1_, h0_] <;> omega))) ?_
  refine j_astore_n (pc := 10) C (lv' := [(0, .ref (h 0)), (1, .int (zI a)), (2, .int (zI L)), (3, .ref q1_)]) dL_isSoAtOnce_10 (by decide) [1, 2, 3, 0] rfl ?_
  refine j_iconst (pc := 11) C dL_isSoAtOnce_11 ?_
  refine j_istore (pc := 12) C (lv' := [(0, .ref (h 0)), (1, .int (zI a)), (2, .int (zI L)), (3, .ref q1_), (4, .int (zI 0))]) dL_isSoAtOnce_12 (by decide) [1, 2, 3, 4, 0] rfl ?_
  refine J.cast (ws' := wG h c1 c2 K Dm L lo hi su db S dy li so sp tu ah M ++ (gA c1 q1_ ((L + 1).toNat) (mix ((wz L lo hi su db S) a) (fun _ => 0) ((0 : Int))) ++ ([]))) (lv' := [(0, .ref (h 0)), (1, .int (zI a)), (2, .int (zI L)), (3, .ref q1_), (4, .int (zI (((0 : Int)))))]) ?_ (by rw [mix_0]) (by rfl) rfl
  refine J.widen (k := 1) (n := (L + 1).toNat) (by omega) (by omega) ?_
  refine j_loop (X := (Int → Int → Int)) (fun (i : Int) x9 => wG h c1 c2 K Dm L lo hi su db S dy li so sp tu ah x9 ++ (gA c1 q1_ ((L + 1).toNat) (mix ((wz L lo hi su db S) a) (fun _ => 0) i) ++ ([]))) (fun (i : Int) x9 => [(0, .ref (h 0)), (1, .int (zI a)), (2, .int (zI L)), (3, .ref q1_), (4, .int (zI i))]) (fun (i : Int) x9 => True) (fun (i : Int) => 1) (fun (i : Int) => (L + 1).toNat) (0 : Int) (L + 1) (by omega) ?_ ?_ M trivial
  · intro i x9 h0_14 h1_14 hI_14 hk_14
    generalize x9 = N at hI_14 hk_14 ⊢
    try dsimp only at hI_14 hk_14 ⊢
    refine j_iload (pc := 14) C dL_isSoAtOnce_14 4 rfl ?_
    refine j_iload_n (pc := 16) C dL_isSoAtOnce_16 2 rfl ?_
    refine j_icmp_gt (pc := 17) C 68 dL_isSoAtOnce_17 (by decide) ⟨by omega, by omega⟩ ⟨by omega, by omega⟩ (fun c_17 => absurd c_17 (by omega)) (fun c_17 => ?_)
    refine j_aload_n (pc := 20) C dL_isSoAtOnce_20 3 rfl ?_
    refine j_iload (pc := 21) C dL_isSoAtOnce_21 4 rfl ?_
    refine j_iload (pc := 23) C dL_isSoAtOnce_23 4 rfl ?_
    refine j_iload_n (pc := 25) C dL_isSoAtOnce_25 1 rfl ?_
    refine j_icmp_le (pc := 26) C 41 dL_isSoAtOnce_26 (by decide) ⟨by omega, by omega⟩ ⟨by omega, by omega⟩ (fun c_26 => ?_) (fun c_26 => ?_)
    · skip
      refine j_iload (pc := 41) C dL_isSoAtOnce_41 4 rfl ?_
      refine j_iload_n (pc := 43) C dL_isSoAtOnce_43 1 rfl ?_
      refine j_icmp_ge (pc := 44) C 60 dL_isSoAtOnce_44 (by decide) ⟨by omega, by omega⟩ ⟨by omega, by omega⟩ (fun c_44 => ?_) (fun c_44 => ?_)
      · skip
        refine j_iconst (pc := 60) C dL_isSoAtOnce_60 ?_
        refine j_iast (pc := 61) C _ 0 (At.r (At.l (k := 0) rfl)) rfl (by omega) (by omega) (by omega) (ws' := wG h c1 c2 K Dm L lo hi su db S dy li so sp tu ah N ++ (gA c1 q1_ ((L + 1).toNat) (upZ (mix ((wz L lo hi su db S) a) (fun _ => 0) i) i 0) ++ ([]))) (Pu.r (Pu.l (k := 0) (hk := rfl) rfl)) dL_isSoAtOnce_61 ?_
        have e9 : (wz L lo hi su db S) a i = 0 := (show i = a by omega) ▸ (wz_ok hok).2.1 a h0 h1
        refine j_iinc (pc := 62) C (x := i) (lv' := [(0, .ref (h 0)), (1, .int (zI a)), (2, .int (zI L)), (3, .ref q1_), (4, .int (zI (i + 1)))]) dL_isSoAtOnce_62 4 rfl (by decide) [1, 2, 3, 4, 0] rfl ?_
        refine j_goto (pc := 65) C 14 dL_isSoAtOnce_65 (by decide) ?_
        exact J.widen (by omega) (by omega) (J.cast (hk_14 N trivial) (by rw [mix_up _ _ i h0_14, e9]) (by rfl) rfl)
      · skip
        refine j_aload_n (pc := 47) C dL_isSoAtOnce_47 0 rfl ?_
        refine j_iload (pc := 48) C dL_isSoAtOnce_48 4 rfl ?_
        refine j_iload_n (pc := 50) C dL_isSoAtOnce_50 1 rfl ?_
        refine j_iconst (pc := 51) C dL_isSoAtOnce_51 ?_
        refine j_isub (pc := 52) C dL_isSoAtOnce_52 ?_
        refine j_callPI (pc := 53) C (As := [.int (zI i), .int (zI (a - 1))]) (rest := [.int (zI i), .ref q1_]) (wr := gA c1 q1_ ((L + 1).toNat) (mix ((wz L lo hi su db S) a) (fun _ => 0) i) ++ ([])) (kX0_leastSum l D h c1 c2 c3 K Dm L lo hi su db S dy li so sp tu ah N i (a - 1) hok (by omega) (by omega) (by omega)) (cwV 2 C.2.2.2.2.1 gL_isSoAtOnce_X0_leastSum rfl rfl rfl (by decide +kernel) ⟨Nat.le_of_ble_eq_true rfl, Nat.le_of_ble_eq_true rfl⟩) 0 (ci := 0) rfl rfl rfl dL_isSoAtOnce_53 rfl rfl (Nat.le_of_ble_eq_true rfl) ⟨(by show _ ≤ 1; omega), (by show _ ≤ 13; omega)⟩ ?_
        refine j_ineg (pc := 56) C dL_isSoAtOnce_56 ?_
        refine j_goto (pc := 57) C 61 dL_isSoAtOnce_57 (by decide) ?_
        refine j_iast (pc := 61) C _ 0 (At.r (At.l (k := 0) rfl)) rfl (by omega) (by omega) (by omega) (ws' := wG h c1 c2 K Dm L lo hi su db S dy li so sp tu ah (wg L lo hi su db N S) ++ (gA c1 q1_ ((L + 1).toNat) (upZ (mix ((wz L lo hi su db S) a) (fun _ => 0) i) i (-(-((wg L lo hi su db N S) ((a - 1) + 1) i)))) ++ ([]))) (Pu.r (Pu.l (k := 0) (hk := rfl) rfl)) dL_isSoAtOnce_61 ?_
        have e9 : -(-((wg L lo hi su db N S) ((a - 1) + 1) i)) = (wz L lo hi su db S) a i := by rw [show (a - 1) + 1 = a by omega, Int.neg_neg]; exact wz_eq hok N a i h0 h1 h0_14 (by omega)
        refine j_iinc (pc := 62) C (x := i) (lv' := [(0, .ref (h 0)), (1, .int (zI a)), (2, .int (zI L)), (3, .ref q1_), (4, .int (zI (i + 1)))]) dL_isSoAtOnce_62 4 rfl (by decide) [1, 2, 3, 4, 0] rfl ?_
        refine j_goto (pc := 65) C 14 dL_isSoAtOnce_65 (by decide) ?_
        exact J.widen (by omega) (by omega) (J.cast (hk_14 (wg L lo hi su db N S) trivial) (by rw [mix_up _ _ i h0_14, e9]) (by rfl) rfl)
    · skip
      refine j_aload_n (pc := 29) C dL_isSoAtOnce_29 0 rfl ?_
      refine j_iload_n (pc := 30) C dL_isSoAtOnce_30 1 rfl ?_
      refine j_iload (pc := 31) C dL_isSoAtOnce_31 4 rfl ?_
      refine j_iconst (pc := 33) C dL_isSoAtOnce_33 ?_
      refine j_isub (pc := 34) C dL_isSoAtOnce_34 ?_
      refine j_callPI (pc := 35) C (As := [.int (zI a), .int (zI (i - 1))]) (rest := [.int (zI i), .ref q1_]) (wr := gA c1 q1_ ((L + 1).toNat) (mix ((wz L lo hi su db S) a) (fun _ => 0) i) ++ ([])) (kX0_greatestSum l D h c1 c2 c3 K Dm L lo hi su db S dy li so sp tu ah N a (i - 1) hok (by omega) (by omega) (by omega)) (cwV 2 C.2.2.2.2.1 gL_isSoAtOnce_X0_greatestSum rfl rfl rfl (by decide +kernel) ⟨Nat.le_of_ble_eq_true rfl, Nat.le_of_ble_eq_true rfl⟩) 0 (ci := 0) rfl rfl rfl dL_isSoAtOnce_35 rfl rfl (Nat.le_of_ble_eq_true rfl) ⟨(by show _ ≤ 1; omega), (by show _ ≤ 13; omega)⟩ ?_
      refine j_goto (pc := 38) C 61 dL_isSoAtOnce_38 (by decide) ?_
      refine j_iast (pc := 61) C _ 0 (At.r (At.l (k := 0) rfl)) rfl (by omega) (by omega) (by omega) (ws' := wG h c1 c2 K Dm L lo hi su db S dy li so sp tu ah (wg L lo hi su db N S) ++ (gA c1 q1_ ((L + 1).toNat) (upZ (mix ((wz L lo hi su db S) a) (fun _ => 0) i) i ((wg L lo hi su db N S) a ((i - 1) + 1))) ++ ([]))) (Pu.r (Pu.l (k := 0) (hk := rfl) rfl)) dL_isSoAtOnce_61 ?_
      have e9 : (wg L lo hi su db N S) a ((i - 1) + 1) = (wz L lo hi su db S) a i := by rw [show (i - 1) + 1 = i by omega]; exact wz_eq hok N a i h0 h1 h0_14 (by omega)
      refine j_iinc (pc := 62) C (x := i) (lv' := [(0, .ref (h 0)), (1, .int (zI a)), (2, .int (zI L)), (3, .ref q1_), (4, .int (zI (i + 1)))]) dL_isSoAtOnce_62 4 rfl (by decide) [1, 2, 3, 4, 0] rfl ?_
      refine j_goto (pc := 65) C 14 dL_isSoAtOnce_65 (by decide) ?_
      exact J.widen (by omega) (by omega) (J.cast (hk_14 (wg L lo hi su db N S) trivial) (by rw [mix_up _ _ i h0_14, e9]) (by rfl) rfl)
  · intro x9 hI_14
    generalize x9 = N at hI_14 ⊢
    try dsimp only at hI_14 ⊢
    refine j_iload (pc := 14) C dL_isSoAtOnce_14 4 rfl ?_
    refine j_iload_n (pc := 16) C dL_isSoAtOnce_16 2 rfl ?_
    refine j_icmp_gt (pc := 17) C 68 dL_isSoAtOnce_17 (by decide) ⟨by omega, by omega⟩ ⟨by omega, by omega⟩ (fun c_17 => ?_) (fun c_17 => absurd c_17 (by omega))
    refine J.cell (ws' := wG h c1 c2 K Dm L lo hi su db S dy li so sp tu ah N ++ (gA c1 q1_ ((L + 1).toNat) ((wz L lo hi su db S) a) ++ ([]))) _ (At.r (At.l (k := 0) rfl)) (Pu.r (Pu.l (k := 0) (hk := rfl) rfl)) (gA_cell c1 _ _ _ (fun j9 j0 j1 => mix_lt _ _ _ _ j0 (by omega))) ?_
    refine j_iconst (pc := 68) C dL_isSoAtOnce_68 ?_
    refine j_istore (pc := 69) C (lv' := [(0, .ref (h 0)), (1, .int (zI a)), (2, .int (zI L)), (3, .ref q1_), (4, .int (zI 0))]) dL_isSoAtOnce_69 (by decide) [1, 2, 3, 4, 0] rfl ?_
    refine J.cast (ws' := wG h c1 c2 K Dm L lo hi su db S dy li so sp tu ah N ++ (gA c1 q1_ ((L + 1).toNat) ((wz L lo hi su db S) a) ++ ([]))) (lv' := [(0, .ref (h 0)), (1, .int (zI a)), (2, .int (zI L)), (3, .ref q1_), (4, .int (zI (((0 : Int)))))]) ?_ (by rfl) (by rfl) rfl
    refine J.widen (k := 1) (n := (L + 1).toNat) (by omega) (by omega) ?_
    refine j_loop (X := Unit) (fun (i : Int) x9 => wG h c1 c2 K Dm L lo hi su db S dy li so sp tu ah N ++ (gA c1 q1_ ((L + 1).toNat) ((wz L lo hi su db S) a) ++ ([]))) (fun (i : Int) x9 => [(0, .ref (h 0)), (1, .int (zI a)), (2, .int (zI L)), (3, .ref q1_), (4, .int (zI i))]) (fun (i : Int) x9 => True) (fun (i : Int) => 1) (fun (i : Int) => (L + 1).toNat) (0 : Int) L (by omega) ?_ ?_ () trivial
    · intro i x9 h0_71 h1_71 hI_71 hk_71
      try dsimp only at hI_71 hk_71 ⊢
      have hb1 := hB a i h0 h1 h0_71 (by omega)
      have hb2 := hB a (i + 1) h0 h1 (by omega) (by omega)
      have ht1 := hT a i (i + 1) h0 h1 h0_71 (by omega) (by omega) (by omega)
      have ht2 := hT a (i + 1) i h0 h1 (by omega) (by omega) h0_71 (by omega)
      have he9 := hE9.1 i h0_71 h1_71
      refine j_iload (pc := 71) C dL_isSoAtOnce_71 4 rfl ?_
      refine j_iload_n (pc := 73) C dL_isSoAtOnce_73 2 rfl ?_
      refine j_icmp_ge (pc := 74) C 114 dL_isSoAtOnce_74 (by decide) ⟨by omega, by omega⟩ ⟨by omega, by omega⟩ (fun c_74 => absurd c_74 (by omega)) (fun c_74 => ?_)
      refine j_aload_n (pc := 77) C dL_isSoAtOnce_77 3 rfl ?_
      refine j_iload (pc := 78) C dL_isSoAtOnce_78 4 rfl ?_
      refine j_iconst (pc := 80) C dL_isSoAtOnce_80 ?_
      refine j_iadd (pc := 81) C dL_isSoAtOnce_81 ?_
      refine j_iald (pc := 82) C _ 0 (At.r (At.l (k := 0) rfl)) rfl (by omega) (by omega) (by omega) dL_isSoAtOnce_82 ?_
      refine j_aload_n (pc := 83) C dL_isSoAtOnce_83 3 rfl ?_
      refine j_iload (pc := 84) C dL_isSoAtOnce_84 4 rfl ?_
      refine j_iald (pc := 86) C _ 0 (At.r (At.l (k := 0) rfl)) rfl (by omega) (by omega) (by omega) dL_isSoAtOnce_86 ?_
      refine j_icmp_lt (pc := 87) C 106 dL_isSoAtOnce_87 (by decide) ⟨by omega, by omega⟩ ⟨by omega, by omega⟩ (fun c_87 => absurd c_87 (by omega)) (fun c_87 => ?_)
      refine j_aload_n (pc := 90) C dL_isSoAtOnce_90 3 rfl ?_
      refine j_iload (pc := 91) C dL_isSoAtOnce_91 4 rfl ?_
      refine j_iconst (pc := 93) C dL_isSoAtOnce_93 ?_
      refine j_iadd (pc := 94) C dL_isSoAtOnce_94 ?_
      refine j_iald (pc := 95) C _ 0 (At.r (At.l (k := 0) rfl)) rfl (by omega) (by omega) (by omega) dL_isSoAtOnce_95 ?_
      refine j_aload_n (pc := 96) C dL_isSoAtOnce_96 3 rfl ?_
      refine j_iload (pc := 97) C dL_isSoAtOnce_97 4 rfl ?_
      refine j_iald (pc := 99) C _ 0 (At.r (At.l (k := 0) rfl)) rfl (by omega) (by omega) (by omega) dL_isSoAtOnce_99 ?_
      refine j_isub (pc := 100) C dL_isSoAtOnce_100 ?_
      refine j_bipush (pc := 101) C dL_isSoAtOnce_101 (by decide +kernel) ?_
      refine j_icmp_le (pc := 103) C 108 dL_isSoAtOnce_103 (by decide) ⟨by omega, by omega⟩ ⟨by omega, by omega⟩ (fun c_103 => ?_) (fun c_103 => absurd c_103 (by omega))
      refine j_iinc (pc := 108) C (x := i) (lv' := [(0, .ref (h 0)), (1, .int (zI a)), (2, .int (zI L)), (3, .ref q1_), (4, .int (zI (i + 1)))]) dL_isSoAtOnce_108 4 rfl (by decide) [1, 2, 3, 4, 0] rfl ?_
      refine j_goto (pc := 111) C 71 dL_isSoAtOnce_111 (by decide) ?_
      exact J.widen (by omega) (by omega) (J.cast (hk_71 () trivial) (by rfl) (by rfl) rfl)
    · intro x9 hI_71
      try dsimp only at hI_71 ⊢
      refine j_iload (pc := 71) C dL_isSoAtOnce_71 4 rfl ?_
      refine j_iload_n (pc := 73) C dL_isSoAtOnce_73 2 rfl ?_
      refine j_icmp_ge (pc := 74) C 114 dL_isSoAtOnce_74 (by decide) ⟨by omega, by omega⟩ ⟨by omega, by omega⟩ (fun c_74 => ?_) (fun c_74 => absurd c_74 (by omega))
      refine j_iconst (pc := 114) C dL_isSoAtOnce_114 ?_
      refine j_istore (pc := 115) C (lv' := [(0, .ref (h 0)), (1, .int (zI a)), (2, .int (zI L)), (3, .ref q1_), (4, .int (zI 0))]) dL_isSoAtOnce_115 (by decide) [1, 2, 3, 4, 0] rfl ?_
      refine J.pick (lv' := [(0, .ref (h 0)), (3, .ref q1_), (4, .int (zI 0))]) [0, 3, 4] rfl ?_
      refine J.cast (ws' := wG h c1 c2 K Dm L lo hi su db S dy li so sp tu ah N ++ (gA c1 q1_ ((L + 1).toNat) ((wz L lo hi su db S) a) ++ ([]))) (lv' := [(0, .ref (h 0)), (3, .ref q1_), (4, .int (zI (((0 : Int)))))]) ?_ (by rfl) (by rfl) rfl
      refine J.widen (k := 1) (n := (L + 1).toNat) (by omega) (by omega) ?_
      refine j_loop (X := Unit) (fun (i : Int) x9 => wG h c1 c2 K Dm L lo hi su db S dy li so sp tu ah N ++ (gA c1 q1_ ((L + 1).toNat) ((wz L lo hi su db S) a) ++ ([]))) (fun (i : Int) x9 => [(0, .ref (h 0)), (3, .ref q1_), (4, .int (zI i))]) (fun (i : Int) x9 => True) (fun (i : Int) => 1) (fun (i : Int) => (L + 1).toNat) (0 : Int) S (by omega) ?_ ?_ () trivial
      · intro i x9 h0_117 h1_117 hI_117 hk_117
        try dsimp only at hI_117 hk_117 ⊢
        obtain ⟨s1, s2, s3, s4, s5, s6, s7⟩ := hs i h0_117 h1_117
        have hz := zs_bnd hf (lo i) (hi i + 1) s1 (by omega) (by omega)
        have hb1 := hB a (lo i) h0 h1 s1 (by omega)
        have hb2 := hB a (hi i + 1) h0 h1 (by omega) (by omega)
        have ht1 := hT a (lo i) (hi i + 1) h0 h1 s1 (by omega) (by omega) (by omega)
        have ht2 := hT a (hi i + 1) (lo i) h0 h1 (by omega) (by omega) s1 (by omega)
        have he9 := hE9.2 i h0_117 h1_117
        refine j_iload (pc := 117) C dL_isSoAtOnce_117 2 rfl ?_
        refine j_aload_n (pc := 119) C dL_isSoAtOnce_119 0 rfl ?_
        refine j_callPI (pc := 120) C (As := []) (rest := [.int (zI i)]) (wr := gA c1 q1_ ((L + 1).toNat) ((wz L lo hi su db S) a) ++ ([])) (kX0_samples l D h c1 c2 c3 K Dm L lo hi su db S dy li so sp tu ah N  ) (cwV 0 C.2.2.2.2.1 gL_isSoAtOnce_X0_samples rfl rfl rfl (by decide +kernel) ⟨Nat.le_of_ble_eq_true rfl, Nat.le_of_ble_eq_true rfl⟩) 0 (ci := 0) rfl rfl rfl dL_isSoAtOnce_120 rfl rfl (Nat.le_of_ble_eq_true rfl) ⟨(by show _ ≤ 1; omega), (by show _ ≤ 13; omega)⟩ ?_
        refine j_icmp_ge (pc := 123) C 172 dL_isSoAtOnce_123 (by decide) ⟨by omega, by omega⟩ ⟨by omega, by omega⟩ (fun c_123 => absurd c_123 (by omega)) (fun c_123 => ?_)
        refine j_aload_n (pc := 126) C dL_isSoAtOnce_126 1 rfl ?_
        refine j_aload_n (pc := 127) C dL_isSoAtOnce_127 0 rfl ?_
        refine j_iload (pc := 128) C dL_isSoAtOnce_128 2 rfl ?_
        refine j_callPI (pc := 130) C (As := [.int (zI i)]) (rest := [.ref q1_]) (wr := gA c1 q1_ ((L + 1).toNat) ((wz L lo hi su db S) a) ++ ([])) (kX0_highestOf l D h c1 c2 c3 K Dm L lo hi su db S dy li so sp tu ah N i (by omega) (by omega) (by omega)) (cwV 1 C.2.2.2.2.1 gL_isSoAtOnce_X0_highestOf rfl rfl rfl (by decide +kernel) ⟨Nat.le_of_ble_eq_true rfl, Nat.le_of_ble_eq_true rfl⟩) 0 (ci := 0) rfl rfl rfl dL_isSoAtOnce_130 rfl rfl (Nat.le_of_ble_eq_true rfl) ⟨(by show _ ≤ 1; omega), (by show _ ≤ 13; omega)⟩ ?_
        refine j_iconst (pc := 133) C dL_isSoAtOnce_133 ?_
        refine j_iadd (pc := 134) C dL_isSoAtOnce_134 ?_
        refine j_iald (pc := 135) C _ 0 (At.r (At.l (k := 0) rfl)) rfl (by omega) (by omega) (by omega) dL_isSoAtOnce_135 ?_
        refine j_aload_n (pc := 136) C dL_isSoAtOnce_136 1 rfl ?_
        refine j_aload_n (pc := 137) C dL_isSoAtOnce_137 0 rfl ?_
        refine j_iload (pc := 138) C dL_isSoAtOnce_138 2 rfl ?_
        refine j_callPI (pc := 140) C (As := [.int (zI i)]) (rest := [.ref q1_, .int (zI (((wz L lo hi su db S) a) ((hi i) + 1)))]) (wr := gA c1 q1_ ((L + 1).toNat) ((wz L lo hi su db S) a) ++ ([])) (kX0_lowestOf l D h c1 c2 c3 K Dm L lo hi su db S dy li so sp tu ah N i (by omega) (by omega) (by omega)) (cwV 1 C.2.2.2.2.1 gL_isSoAtOnce_X0_lowestOf rfl rfl rfl (by decide +kernel) ⟨Nat.le_of_ble_eq_true rfl, Nat.le_of_ble_eq_true rfl⟩) 0 (ci := 0) rfl rfl rfl dL_isSoAtOnce_140 rfl rfl (Nat.le_of_ble_eq_true rfl) ⟨(by show _ ≤ 1; omega), (by show _ ≤ 13; omega)⟩ ?_
        refine j_iald (pc := 143) C _ 0 (At.r (At.l (k := 0) rfl)) rfl (by omega) (by omega) (by omega) dL_isSoAtOnce_143 ?_
        refine j_isub (pc := 144) C dL_isSoAtOnce_144 ?_
        refine j_aload_n (pc := 145) C dL_isSoAtOnce_145 0 rfl ?_
        refine j_iload (pc := 146) C dL_isSoAtOnce_146 2 rfl ?_
        refine j_callPI (pc := 148) C (As := [.int (zI i)]) (rest := [.int (zI ((((wz L lo hi su db S) a) ((hi i) + 1)) - (((wz L lo hi su db S) a) (lo i))))]) (wr := gA c1 q1_ ((L + 1).toNat) ((wz L lo hi su db S) a) ++ ([])) (kX0_sumOf l D h c1 c2 c3 K Dm L lo hi su db S dy li so sp tu ah N i (by omega) (by omega) (by omega)) (cwV 1 C.2.2.2.2.1 gL_isSoAtOnce_X0_sumOf rfl rfl rfl (by decide +kernel) ⟨Nat.le_of_ble_eq_true rfl, Nat.le_of_ble_eq_true rfl⟩) 0 (ci := 0) rfl rfl rfl dL_isSoAtOnce_148 rfl rfl (Nat.le_of_ble_eq_true rfl) ⟨(by show _ ≤ 1; omega), (by show _ ≤ 13; omega)⟩ ?_
        refine j_isub (pc := 151) C dL_isSoAtOnce_151 ?_
        refine j_abs (pc := 152) C (C.w 2 rfl) (C.w 3 rfl) (C.w 4 rfl) (C.w 5 rfl) (Nat.le_of_ble_eq_true rfl) (Nat.le_of_ble_eq_true rfl) (by show _ ≤ 1; omega) (by show _ ≤ 13; omega) ⟨by omega, by omega⟩ dL_isSoAtOnce_152 ?_
        refine J.cast (ws' := wG h c1 c2 K Dm L lo hi su db S dy li so sp tu ah N ++ (gA c1 q1_ ((L + 1).toNat) ((wz L lo hi su db S) a) ++ ([]))) (lv' := [(0, .ref (h 0)), (3, .ref q1_), (4, .int (zI i))]) (st' := [.int (zI (ab (((((wz L lo hi su db S) a) ((hi i) + 1)) - (((wz L lo hi su db S) a) (lo i))) - (su i))))]) ?_ (by rfl) (by rfl) (by rfl)
        have a_152 := ab_or (((((wz L lo hi su db S) a) ((hi i) + 1)) - (((wz L lo hi su db S) a) (lo i))) - (su i))
        refine j_aload_n (pc := 155) C dL_isSoAtOnce_155 0 rfl ?_
        refine j_iload (pc := 156) C dL_isSoAtOnce_156 2 rfl ?_
        refine j_callPI (pc := 158) C (As := [.int (zI i)]) (rest := [.int (zI (ab (((((wz L lo hi su db S) a) ((hi i) + 1)) - (((wz L lo hi su db S) a) (lo i))) - (su i))))]) (wr := gA c1 q1_ ((L + 1).toNat) ((wz L lo hi su db S) a) ++ ([])) (kX0_doubtOf l D h c1 c2 c3 K Dm L lo hi su db S dy li so sp tu ah N i (by omega) (by omega) (by omega)) (cwV 1 C.2.2.2.2.1 gL_isSoAtOnce_X0_doubtOf rfl rfl rfl (by decide +kernel) ⟨Nat.le_of_ble_eq_true rfl, Nat.le_of_ble_eq_true rfl⟩) 0 (ci := 0) rfl rfl rfl dL_isSoAtOnce_158 rfl rfl (Nat.le_of_ble_eq_true rfl) ⟨(by show _ ≤ 1; omega), (by show _ ≤ 13; omega)⟩ ?_
        refine j_icmp_le (pc := 161) C 166 dL_isSoAtOnce_161 (by decide) ⟨by omega, by omega⟩ ⟨by omega, by omega⟩ (fun c_161 => ?_) (fun c_161 => absurd c_161 (by omega))
        refine j_iinc (pc := 166) C (x := i) (lv' := [(0, .ref (h 0)), (3, .ref q1_), (4, .int (zI (i + 1)))]) dL_isSoAtOnce_166 2 rfl (by decide) [1, 2, 0] rfl ?_
        refine j_goto (pc := 169) C 117 dL_isSoAtOnce_169 (by decide) ?_
        exact J.widen (by omega) (by omega) (J.cast (hk_117 () trivial) (by rfl) (by rfl) rfl)
      · intro x9 hI_117
        try dsimp only at hI_117 ⊢
        refine j_iload (pc := 117) C dL_isSoAtOnce_117 2 rfl ?_
        refine j_aload_n (pc := 119) C dL_isSoAtOnce_119 0 rfl ?_
        refine j_callPI (pc := 120) C (As := []) (rest := [.int (zI S)]) (wr := gA c1 q1_ ((L + 1).toNat) ((wz L lo hi su db S) a) ++ ([])) (kX0_samples l D h c1 c2 c3 K Dm L lo hi su db S dy li so sp tu ah N  ) (cwV 0 C.2.2.2.2.1 gL_isSoAtOnce_X0_samples rfl rfl rfl (by decide +kernel) ⟨Nat.le_of_ble_eq_true rfl, Nat.le_of_ble_eq_true rfl⟩) 0 (ci := 0) rfl rfl rfl dL_isSoAtOnce_120 rfl rfl (Nat.le_of_ble_eq_true rfl) ⟨(by show _ ≤ 1; omega), (by show _ ≤ 13; omega)⟩ ?_
        refine j_icmp_ge (pc := 123) C 172 dL_isSoAtOnce_123 (by decide) ⟨by omega, by omega⟩ ⟨by omega, by omega⟩ (fun c_123 => ?_) (fun c_123 => absurd c_123 (by omega))
        refine j_iconst (pc := 172) C dL_isSoAtOnce_172 ?_
        refine J.sub (ws' := wG h c1 c2 K Dm L lo hi su db S dy li so sp tu ah N) (rest := gA c1 q1_ ((L + 1).toNat) ((wz L lo hi su db S) a) ++ ([])) (perm_of_count (fun cnt h1_ h0_ => by simp only [wU, wS, wGS, h1_, h0_] <;> omega)) ?_
        exact j_zretE (pc := 173) C hr dL_isSoAtOnce_173 rfl N trivial (by rfl) (by rfl) (by omega) (by omega)
