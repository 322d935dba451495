/-! ===== Sim: what could be ===== -/
set_option maxHeartbeats 4000000 in
set_option maxRecDepth 100000 in
theorem kX1_most (l : Launch) (D : va_G) (c1 c2 c3 : ClassId) (o la sa : Nat) (r q : Nat → Nat) (dy li so sp L : Int) (K Dm : Int → Int) (S : Int) (lo hi su db : Int → Int) (M : Int → Int → Int) (a : Int) (hok : okS Dm L lo hi su db S) (h0 : 0 ≤ a) (h1 : a ≤ L) : eR l yX1_most wsX1_most ({ frames := 0, cells := 1, slots := 13, locals := 0 }) D (tyS c1 c2 c3) [.ref o, .int (zI a)] (wS c1 c2 o la sa r q dy li so sp L K Dm S lo hi su db) E1 (fun (u9 : Nat × (Int → Int)) => ∀ k, 0 ≤ k → k ≤ L → u9.2 k = (wg L lo hi su db M S) a k) (fun (u9 : Nat × (Int → Int)) => wS c1 c2 o la sa r q dy li so sp L K Dm S lo hi su db ++ gA c1 u9.1 (L + 1).toNat u9.2) (fun (u9 : Nat × (Int → Int)) => u9.1) 1 13 := by
  refine eR.of (cc := cX1_most) (maxL := 11) (ret := .array .int) (by decide) rfl (lv := [(0, .ref o), (1, .int (zI a))]) [0, 1] rfl (Nat.le_of_ble_eq_true rfl) ?_
  intro p e s m args below meth c A C hr hE hAw
  have ho : va_AOA .int s := hE
  have C : GC p s m args meth c cX1_most 11 RX1 wsX1_most D (tyS c1 c2 c3) A := C
  have hin : ∀ w ∈ wsX10, w ∈ wsX1_most := fun _ h => List.mem_cons_of_mem _ (List.mem_append_right _ h)
  have hL0 := hok.1.1
  have hL := hok.1.2
  have hS0 := hok.2.1.1
  have hS := hok.2.1.2
  have hf := hok.2.2.1
  have hs := hok.2.2.2
  have hw := wg_ok hok M S hS0 (Int.le_refl _)
  have wB := Wok_B hL hf hw
  have hE9 := wg_E hok M
  refine J.cast (ws' := gO o la sa dy li so sp ++ (gR c2 la L.toNat r ++ (gR c2 sa S.toNat q ++ (gB c1 r L.toNat 2 (fL K Dm) ++ (gB c1 q S.toNat 4 (fS lo hi su db) ++ ([])))))) (lv' := [(0, .ref o), (1, .int (zI a))]) (st' := []) ?_ (by rfl) rfl rfl
  refine j_aload_n (pc := 0) C dX1_most_0 0 rfl ?_
  refine j_get (pc := 1) C (ref := "GrainSiloLaw$Sim") (T := TX1) (N := 6) hin _ (At.l (k := 0) rfl) rfl 4 (by decide) (C.w 1 rfl) rfl rfl dX1_most_1 ?_
  refine j_alen (pc := 4) C _ 1 (At.r (At.l (k := 0) rfl)) rfl (z := L) (alen_eq (by omega) (by omega)) dX1_most_4 ?_
  refine j_istore_n (pc := 5) C (lv' := [(0, .ref o), (1, .int (zI a)), (2, .int (zI L))]) dX1_most_5 (by decide) [1, 2, 0] rfl ?_
  refine j_iload_n (pc := 6) C dX1_most_6 2 rfl ?_
  refine j_iconst (pc := 7) C dX1_most_7 ?_
  refine j_iadd (pc := 8) C dX1_most_8 ?_
  refine j_newI (pc := 9) C (C.w 2 rfl) 0 rfl (n := (L + 1).toNat) (by omega) (by omega) (by show _ ≤ 1; omega) (by show _ ≤ 13; omega) dX1_most_9 (fun q1_ => ?_)
  refine J.perm (ws' := gA c1 q1_ ((L + 1).toNat) (fun _ => 0) ++ (gO o la sa dy li so sp ++ (gR c2 la L.toNat r ++ (gR c2 sa S.toNat q ++ (gB c1 r L.toNat 2 (fL K Dm) ++ (gB c1 q S.toNat 4 (fS lo hi su db) ++ ([]))))))) (List.Perm.trans (List.Perm.of_eq (show _ = (gO o la sa dy li so sp ++ (gR c2 la L.toNat r ++ (gR c2 sa S.toNat q ++ (gB c1 r L.toNat 2 (fL K Dm) ++ (gB c1 q S.toNat 4 (fS lo hi su db) ++ ([])))))) ++ (gA c1 q1_ ((L + 1).toNat) (fun _ => 0)) from rfl)) (perm_of_count (fun cnt h1_ h0_ => by simp only [wU, wS, wGS, h1_, h0_] <;> omega))) ?_
  refine j_astore_n (pc := 11) C (lv' := [(0, .ref o), (1, .int (zI a)), (2, .int (zI L)), (3, .ref q1_)]) dX1_most_11 (by decide) [1, 2, 3, 0] rfl ?_
  refine j_iconst (pc := 12) C dX1_most_12 ?_
  refine j_istore (pc := 13) C (lv' := [(0, .ref o), (1, .int (zI a)), (2, .int (zI L)), (3, .ref q1_), (4, .int (zI 0))]) dX1_most_13 (by decide) [1, 2, 3, 4, 0] rfl ?_
  refine J.cast (ws' := gA c1 q1_ ((L + 1).toNat) (mix (mg a) (fun _ => 0) ((0 : Int))) ++ (gO o la sa dy li so sp ++ (gR c2 la L.toNat r ++ (gR c2 sa S.toNat q ++ (gB c1 r L.toNat 2 (fL K Dm) ++ (gB c1 q S.toNat 4 (fS lo hi su db) ++ ([]))))))) (lv' := [(0, .ref o), (1, .int (zI a)), (2, .int (zI L)), (3, .ref q1_), (4, .int (zI (((0 : Int)))))]) ?_ (by rw [mix_0]) (by rfl) rfl
  refine J.widen (k := 1) (n := (L + 1).toNat) (by omega) (by omega) ?_
  refine j_loop (X := Unit) (fun (i : Int) x9 => gA c1 q1_ ((L + 1).toNat) (mix (mg a) (fun _ => 0) i) ++ (gO o la sa dy li so sp ++ (gR c2 la L.toNat r ++ (gR c2 sa S.toNat q ++ (gB c1 r L.toNat 2 (fL K Dm) ++ (gB c1 q S.toNat 4 (fS lo hi su db) ++ ([]))))))) (fun (i : Int) x9 => [(0, .ref o), (1, .int (zI a)), (2, .int (zI L)), (3, .ref q1_), (4, .int (zI i))]) (fun (i : Int) x9 => True) (fun (i : Int) => 1) (fun (i : Int) => (L + 1).toNat) (0 : Int) (L + 1) (by omega) ?_ ?_ () trivial
  · intro i x9 h0_15 h1_15 hI_15 hk_15
    try dsimp only at hI_15 hk_15 ⊢
    refine j_iload (pc := 15) C dX1_most_15 4 rfl ?_
    refine j_iload_n (pc := 17) C dX1_most_17 2 rfl ?_
    refine j_icmp_gt (pc := 18) C 48 dX1_most_18 (by decide) ⟨by omega, by omega⟩ ⟨by omega, by omega⟩ (fun c_18 => absurd c_18 (by omega)) (fun c_18 => ?_)
    refine j_aload_n (pc := 21) C dX1_most_21 3 rfl ?_
    refine j_iload (pc := 22) C dX1_most_22 4 rfl ?_
    refine j_iload (pc := 24) C dX1_most_24 4 rfl ?_
    refine j_iload_n (pc := 26) C dX1_most_26 1 rfl ?_
    refine j_icmp_le (pc := 27) C 40 dX1_most_27 (by decide) ⟨by omega, by omega⟩ ⟨by omega, by omega⟩ (fun c_27 => ?_) (fun c_27 => ?_)
    · skip
      refine j_iconst (pc := 40) C dX1_most_40 ?_
      refine j_iast (pc := 41) C _ 0 (At.l (k := 0) rfl) rfl (by omega) (by omega) (by omega) (ws' := gA c1 q1_ ((L + 1).toNat) (upZ (mix (mg a) (fun _ => 0) i) i 0) ++ (gO o la sa dy li so sp ++ (gR c2 la L.toNat r ++ (gR c2 sa S.toNat q ++ (gB c1 r L.toNat 2 (fL K Dm) ++ (gB c1 q S.toNat 4 (fS lo hi su db) ++ ([]))))))) (Pu.l (k := 0) (hk := rfl) rfl) dX1_most_41 ?_
      refine j_iinc (pc := 42) C (x := i) (lv' := [(0, .ref o), (1, .int (zI a)), (2, .int (zI L)), (3, .ref q1_), (4, .int (zI (i + 1)))]) dX1_most_42 4 rfl (by decide) [1, 2, 3, 4, 0] rfl ?_
      refine j_goto (pc := 45) C 15 dX1_most_45 (by decide) ?_
      exact J.widen (by omega) (by omega) (J.cast (hk_15 () trivial) (by rw [mix_up _ _ i h0_15]; unfold mg; rw [if_neg (by omega)]) (by rfl) rfl)
    · skip
      refine j_bipush (pc := 30) C dX1_most_30 (by decide +kernel) ?_
      refine j_iload (pc := 32) C dX1_most_32 4 rfl ?_
      refine j_iload_n (pc := 34) C dX1_most_34 1 rfl ?_
      refine j_isub (pc := 35) C dX1_most_35 ?_
      refine j_imul (pc := 36) C dX1_most_36 ?_
      refine j_goto (pc := 37) C 41 dX1_most_37 (by decide) ?_
      refine j_iast (pc := 41) C _ 0 (At.l (k := 0) rfl) rfl (by omega) (by omega) (by omega) (ws' := gA c1 q1_ ((L + 1).toNat) (upZ (mix (mg a) (fun _ => 0) i) i (40 * (i - a))) ++ (gO o la sa dy li so sp ++ (gR c2 la L.toNat r ++ (gR c2 sa S.toNat q ++ (gB c1 r L.toNat 2 (fL K Dm) ++ (gB c1 q S.toNat 4 (fS lo hi su db) ++ ([]))))))) (Pu.l (k := 0) (hk := rfl) rfl) dX1_most_41 ?_
      refine j_iinc (pc := 42) C (x := i) (lv' := [(0, .ref o), (1, .int (zI a)), (2, .int (zI L)), (3, .ref q1_), (4, .int (zI (i + 1)))]) dX1_most_42 4 rfl (by decide) [1, 2, 3, 4, 0] rfl ?_
      refine j_goto (pc := 45) C 15 dX1_most_45 (by decide) ?_
      exact J.widen (by omega) (by omega) (J.cast (hk_15 () trivial) (by rw [mix_up _ _ i h0_15]; unfold mg; rw [if_pos (by omega)]) (by rfl) rfl)
  · intro x9 hI_15
    try dsimp only at hI_15 ⊢
    refine j_iload (pc := 15) C dX1_most_15 4 rfl ?_
    refine j_iload_n (pc := 17) C dX1_most_17 2 rfl ?_
    refine j_icmp_gt (pc := 18) C 48 dX1_most_18 (by decide) ⟨by omega, by omega⟩ ⟨by omega, by omega⟩ (fun c_18 => ?_) (fun c_18 => absurd c_18 (by omega))
    refine j_iconst (pc := 48) C dX1_most_48 ?_
    refine j_istore (pc := 49) C (lv' := [(0, .ref o), (1, .int (zI a)), (2, .int (zI L)), (3, .ref q1_), (4, .int (zI 1))]) dX1_most_49 (by decide) [1, 2, 3, 4, 0] rfl ?_
    refine J.cast (ws' := gA c1 q1_ ((L + 1).toNat) ((mix (mg a) (fun _ => 0) (L + 1))) ++ (gO o la sa dy li so sp ++ (gR c2 la L.toNat r ++ (gR c2 sa S.toNat q ++ (gB c1 r L.toNat 2 (fL K Dm) ++ (gB c1 q S.toNat 4 (fS lo hi su db) ++ ([]))))))) (lv' := [(0, .ref o), (1, .int (zI a)), (2, .int (zI L)), (3, .ref q1_), (4, .int (zI 1))]) ?_ (by rfl) (by rfl) rfl
    refine j_while (X := (Int → Int) × Int) (fun x9 => gA c1 q1_ ((L + 1).toNat) x9.1 ++ (gO o la sa dy li so sp ++ (gR c2 la L.toNat r ++ (gR c2 sa S.toNat q ++ (gB c1 r L.toNat 2 (fL K Dm) ++ (gB c1 q S.toNat 4 (fS lo hi su db) ++ ([]))))))) (fun x9 => [(0, .ref o), (1, .int (zI a)), (2, .int (zI L)), (3, .ref q1_), (4, .int (zI x9.2))]) (fun x9 => MI L a (wg L lo hi su db M S) x9.1 ∧ (x9.2 = 0 ∨ x9.2 = 1) ∧ (x9.2 = 0 → EA x9.1 L ∧ EB lo hi su db x9.1 S)) (fun x9 => 2 * (zs x9.1 0 (L + 1) - zs ((wg L lo hi su db M S) a) 0 (L + 1)).toNat + x9.2.toNat) ?_ ⟨mix (mg a) (fun _ => 0) (L + 1), 1⟩ ⟨mst_0 hok M a h0 h1, Or.inr rfl, fun q9 => absurd (show (1 : Int) = 0 from q9) (by decide)⟩
    · intro x9 hI_51 hk_51
      obtain ⟨f, b⟩ := x9
      try dsimp only at hI_51 hk_51 ⊢
      refine j_iload (pc := 51) C dX1_most_51 4 rfl ?_
      refine j_if_eq (pc := 53) C 255 dX1_most_53 (by decide) ⟨by omega, by omega⟩ (fun c_53 => ?_) (fun c_53 => ?_)
      · skip
        refine j_aload_n (pc := 255) C dX1_most_255 3 rfl ?_
        refine J.sub (ws' := wS c1 c2 o la sa r q dy li so sp L K Dm S lo hi su db ++ gA c1 q1_ ((L + 1).toNat) f) (rest := []) (perm_of_count (fun cnt h1_ h0_ => by simp only [wU, wS, wGS, h1_, h0_] <;> omega)) ?_
        exact j_aretE (pc := 256) C hr (Or.inr ⟨_, rfl⟩) dX1_most_256 ⟨q1_, f⟩ (mst_fin hok M a h0 h1 hI_51.1 (hI_51.2.2 c_53).1 (hI_51.2.2 c_53).2) (by rfl) (by rfl) (by omega) (by omega)
      · skip
        obtain rfl : b = 1 := by have := hI_51.2.1; omega
        refine j_iconst (pc := 56) C dX1_most_56 ?_
        refine j_istore (pc := 57) C (lv' := [(0, .ref o), (1, .int (zI a)), (2, .int (zI L)), (3, .ref q1_), (4, .int (zI 0))]) dX1_most_57 (by decide) [1, 2, 3, 4, 0] rfl ?_
        refine j_iconst (pc := 59) C dX1_most_59 ?_
        refine j_istore (pc := 60) C (lv' := [(0, .ref o), (1, .int (zI a)), (2, .int (zI L)), (3, .ref q1_), (4, .int (zI 0)), (5, .int (zI 0))]) dX1_most_60 (by decide) [1, 2, 3, 4, 5, 0] rfl ?_
        refine J.cast (ws' := gA c1 q1_ ((L + 1).toNat) f ++ (gO o la sa dy li so sp ++ (gR c2 la L.toNat r ++ (gR c2 sa S.toNat q ++ (gB c1 r L.toNat 2 (fL K Dm) ++ (gB c1 q S.toNat 4 (fS lo hi su db) ++ ([]))))))) (lv' := [(0, .ref o), (1, .int (zI a)), (2, .int (zI L)), (3, .ref q1_), (4, .int (zI 0)), (5, .int (zI (((0 : Int)))))]) ?_ (by rfl) (by rfl) rfl
        refine J.widen (k := 1) (n := (L + 1).toNat) (by omega) (by omega) ?_
        refine j_loop (X := (Int → Int) × Int) (fun (i : Int) x9 => gA c1 q1_ ((L + 1).toNat) x9.1 ++ (gO o la sa dy li so sp ++ (gR c2 la L.toNat r ++ (gR c2 sa S.toNat q ++ (gB c1 r L.toNat 2 (fL K Dm) ++ (gB c1 q S.toNat 4 (fS lo hi su db) ++ ([]))))))) (fun (i : Int) x9 => [(0, .ref o), (1, .int (zI a)), (2, .int (zI L)), (3, .ref q1_), (4, .int (zI x9.2)), (5, .int (zI i))]) (fun (i : Int) x9 => ST L a (wg L lo hi su db M S) f (EA f i) x9.1 x9.2) (fun (i : Int) => 1) (fun (i : Int) => (L + 1).toNat) (0 : Int) L (by omega) ?_ ?_ ⟨f, 0⟩ ⟨hI_51.1, Or.inl rfl, by show zs f 0 (L + 1) + 0 ≤ zs f 0 (L + 1); omega, fun _ => ⟨rfl, fun j j0 j1 => absurd j1 (by omega)⟩⟩
        · intro i x9 h0_62 h1_62 hI_62 hk_62
          obtain ⟨g, d⟩ := x9
          try dsimp only at hI_62 hk_62 ⊢
          have hb1 := hI_62.1.1 i h0_62 (by omega)
          have hb2 := hI_62.1.1 (i + 1) (by omega) (by omega)
          have hb3 := wB a i h0 h1 h0_62 (by omega)
          have hb4 := wB a (i + 1) h0 h1 (by omega) (by omega)
          have hy1 := wy hok M a i (i + 1) 40 h0 h1 h0_62 (by omega) (by omega) (by omega) (hE9.1 i h0_62 h1_62).1
          have hy2 := wy hok M a (i + 1) i 0 h0 h1 (by omega) (by omega) h0_62 (by omega) (hE9.1 i h0_62 h1_62).2
          refine j_iload (pc := 62) C dX1_most_62 5 rfl ?_
          refine j_iload_n (pc := 64) C dX1_most_64 2 rfl ?_
          refine j_icmp_ge (pc := 65) C 132 dX1_most_65 (by decide) ⟨by omega, by omega⟩ ⟨by omega, by omega⟩ (fun c_65 => absurd c_65 (by omega)) (fun c_65 => ?_)
          refine j_aload_n (pc := 68) C dX1_most_68 3 rfl ?_
          refine j_iload (pc := 69) C dX1_most_69 5 rfl ?_
          refine j_iconst (pc := 71) C dX1_most_71 ?_
          refine j_iadd (pc := 72) C dX1_most_72 ?_
          refine j_iald (pc := 73) C _ 0 (At.l (k := 0) rfl) rfl (by omega) (by omega) (by omega) dX1_most_73 ?_
          refine j_aload_n (pc := 74) C dX1_most_74 3 rfl ?_
          refine j_iload (pc := 75) C dX1_most_75 5 rfl ?_
          refine j_iald (pc := 77) C _ 0 (At.l (k := 0) rfl) rfl (by omega) (by omega) (by omega) dX1_most_77 ?_
          refine j_bipush (pc := 78) C dX1_most_78 (by decide +kernel) ?_
          refine j_iadd (pc := 80) C dX1_most_80 ?_
          refine j_icmp_le (pc := 81) C 100 dX1_most_81 (by decide) ⟨by omega, by omega⟩ ⟨by omega, by omega⟩ (fun c_81 => ?_) (fun c_81 => ?_)
          · skip
            refine j_aload_n (pc := 100) C dX1_most_100 3 rfl ?_
            refine j_iload (pc := 101) C dX1_most_101 5 rfl ?_
            refine j_iald (pc := 103) C _ 0 (At.l (k := 0) rfl) rfl (by omega) (by omega) (by omega) dX1_most_103 ?_
            refine j_aload_n (pc := 104) C dX1_most_104 3 rfl ?_
            refine j_iload (pc := 105) C dX1_most_105 5 rfl ?_
            refine j_iconst (pc := 107) C dX1_most_107 ?_
            refine j_iadd (pc := 108) C dX1_most_108 ?_
            refine j_iald (pc := 109) C _ 0 (At.l (k := 0) rfl) rfl (by omega) (by omega) (by omega) dX1_most_109 ?_
            refine j_icmp_le (pc := 110) C 126 dX1_most_110 (by decide) ⟨by omega, by omega⟩ ⟨by omega, by omega⟩ (fun c_110 => ?_) (fun c_110 => ?_)
            · skip
              refine j_iinc (pc := 126) C (x := i) (lv' := [(0, .ref o), (1, .int (zI a)), (2, .int (zI L)), (3, .ref q1_), (4, .int (zI d)), (5, .int (zI (i + 1)))]) dX1_most_126 5 rfl (by decide) [1, 2, 3, 4, 5, 0] rfl ?_
              refine j_goto (pc := 129) C 62 dX1_most_129 (by decide) ?_
              exact J.widen (by omega) (by omega) (J.cast (hk_62 ⟨g, d⟩ (hI_62.skip (fun q9 hq => EA.up hq (by subst q9; omega) (by subst q9; omega)))) (by rfl) (by rfl) rfl)
            · skip
              refine j_aload_n (pc := 113) C dX1_most_113 3 rfl ?_
              refine j_iload (pc := 114) C dX1_most_114 5 rfl ?_
              refine j_aload_n (pc := 116) C dX1_most_116 3 rfl ?_
              refine j_iload (pc := 117) C dX1_most_117 5 rfl ?_
              refine j_iconst (pc := 119) C dX1_most_119 ?_
              refine j_iadd (pc := 120) C dX1_most_120 ?_
              refine j_iald (pc := 121) C _ 0 (At.l (k := 0) rfl) rfl (by omega) (by omega) (by omega) dX1_most_121 ?_
              refine j_iast (pc := 122) C _ 0 (At.l (k := 0) rfl) rfl (by omega) (by omega) (by omega) (ws' := gA c1 q1_ ((L + 1).toNat) (upZ g i (g (i + 1))) ++ (gO o la sa dy li so sp ++ (gR c2 la L.toNat r ++ (gR c2 sa S.toNat q ++ (gB c1 r L.toNat 2 (fL K Dm) ++ (gB c1 q S.toNat 4 (fS lo hi su db) ++ ([]))))))) (Pu.l (k := 0) (hk := rfl) rfl) dX1_most_122 ?_
              refine j_iconst (pc := 123) C dX1_most_123 ?_
              refine j_istore (pc := 124) C (lv' := [(0, .ref o), (1, .int (zI a)), (2, .int (zI L)), (3, .ref q1_), (4, .int (zI 1)), (5, .int (zI i))]) dX1_most_124 (by decide) [1, 2, 3, 4, 0, 5] rfl ?_
              refine j_iinc (pc := 126) C (x := i) (lv' := [(0, .ref o), (1, .int (zI a)), (2, .int (zI L)), (3, .ref q1_), (4, .int (zI 1)), (5, .int (zI (i + 1)))]) dX1_most_126 5 rfl (by decide) [1, 2, 3, 4, 5, 0] rfl ?_
              refine j_goto (pc := 129) C 62 dX1_most_129 (by decide) ?_
              exact J.widen (by omega) (by omega) (J.cast (hk_62 ⟨upZ g i (g (i + 1)), 1⟩ (ST.set hI_62 _ i (g (i + 1)) (by omega) (by omega) (by omega) (by omega))) (by rfl) (by rfl) rfl)
          · skip
            refine j_aload_n (pc := 84) C dX1_most_84 3 rfl ?_
            refine j_iload (pc := 85) C dX1_most_85 5 rfl ?_
            refine j_iconst (pc := 87) C dX1_most_87 ?_
            refine j_iadd (pc := 88) C dX1_most_88 ?_
            refine j_aload_n (pc := 89) C dX1_most_89 3 rfl ?_
            refine j_iload (pc := 90) C dX1_most_90 5 rfl ?_
            refine j_iald (pc := 92) C _ 0 (At.l (k := 0) rfl) rfl (by omega) (by omega) (by omega) dX1_most_92 ?_
            refine j_bipush (pc := 93) C dX1_most_93 (by decide +kernel) ?_
            refine j_iadd (pc := 95) C dX1_most_95 ?_
            refine j_iast (pc := 96) C _ 0 (At.l (k := 0) rfl) rfl (by omega) (by omega) (by omega) (ws' := gA c1 q1_ ((L + 1).toNat) (upZ g (i + 1) ((g i) + 40)) ++ (gO o la sa dy li so sp ++ (gR c2 la L.toNat r ++ (gR c2 sa S.toNat q ++ (gB c1 r L.toNat 2 (fL K Dm) ++ (gB c1 q S.toNat 4 (fS lo hi su db) ++ ([]))))))) (Pu.l (k := 0) (hk := rfl) rfl) dX1_most_96 ?_
            refine j_iconst (pc := 97) C dX1_most_97 ?_
            refine j_istore (pc := 98) C (lv' := [(0, .ref o), (1, .int (zI a)), (2, .int (zI L)), (3, .ref q1_), (4, .int (zI 1)), (5, .int (zI i))]) dX1_most_98 (by decide) [1, 2, 3, 4, 0, 5] rfl ?_
            refine j_aload_n (pc := 100) C dX1_most_100 3 rfl ?_
            refine j_iload (pc := 101) C dX1_most_101 5 rfl ?_
            refine j_iald (pc := 103) C _ 0 (At.l (k := 0) rfl) rfl (by omega) (by omega) (by omega) dX1_most_103 ?_
            refine j_aload_n (pc := 104) C dX1_most_104 3 rfl ?_
            refine j_iload (pc := 105) C dX1_most_105 5 rfl ?_
            refine j_iconst (pc := 107) C dX1_most_107 ?_
            refine j_iadd (pc := 108) C dX1_most_108 ?_
            refine j_iald (pc := 109) C _ 0 (At.l (k := 0) rfl) rfl (by omega) (by omega) (by omega) dX1_most_109 ?_
            have u1 : upZ g (i + 1) (g i + 40) i = g i := upZ_n (by omega)
            have u2 : upZ g (i + 1) (g i + 40) (i + 1) = g i + 40 := upZ_s
            refine j_icmp_le (pc := 110) C 126 dX1_most_110 (by decide) ⟨by omega, by omega⟩ ⟨by omega, by omega⟩ (fun c_110 => ?_) (fun c_110 => absurd c_110 (by omega))
            refine j_iinc (pc := 126) C (x := i) (lv' := [(0, .ref o), (1, .int (zI a)), (2, .int (zI L)), (3, .ref q1_), (4, .int (zI 1)), (5, .int (zI (i + 1)))]) dX1_most_126 5 rfl (by decide) [1, 2, 3, 4, 5, 0] rfl ?_
            refine j_goto (pc := 129) C 62 dX1_most_129 (by decide) ?_
            exact J.widen (by omega) (by omega) (J.cast (hk_62 ⟨upZ g (i + 1) ((g i) + 40), 1⟩ (ST.set hI_62 _ (i + 1) (g i + 40) (by omega) (by omega) (by omega) (by omega))) (by rfl) (by rfl) rfl)
        · intro x9 hI_62
          obtain ⟨g, d⟩ := x9
          try dsimp only at hI_62 ⊢
          refine j_iload (pc := 62) C dX1_most_62 5 rfl ?_
          refine j_iload_n (pc := 64) C dX1_most_64 2 rfl ?_
          refine j_icmp_ge (pc := 65) C 132 dX1_most_65 (by decide) ⟨by omega, by omega⟩ ⟨by omega, by omega⟩ (fun c_65 => ?_) (fun c_65 => absurd c_65 (by omega))
          refine j_aload_n (pc := 132) C dX1_most_132 0 rfl ?_
          refine j_get (pc := 133) C (ref := "GrainSiloLaw$Sim") (T := TX1) (N := 6) hin _ (At.r (At.l (k := 0) rfl)) rfl 5 (by decide) (C.w 3 rfl) rfl rfl dX1_most_133 ?_
          refine j_astore (pc := 136) C (lv' := [(0, .ref o), (1, .int (zI a)), (2, .int (zI L)), (3, .ref q1_), (4, .int (zI d)), (5, .ref sa)]) dX1_most_136 (by decide) [1, 2, 3, 4, 5, 0] rfl ?_
          refine j_aload (pc := 138) C dX1_most_138 5 rfl ?_
          refine j_alen (pc := 140) C _ 1 (At.r (At.r (At.r (At.l (k := 0) rfl)))) rfl (z := S) (alen_eq (by omega) (by omega)) dX1_most_140 ?_
          refine j_istore (pc := 141) C (lv' := [(0, .ref o), (1, .int (zI a)), (2, .int (zI L)), (3, .ref q1_), (4, .int (zI d)), (5, .ref sa), (6, .int (zI S))]) dX1_most_141 (by decide) [1, 2, 3, 4, 5, 6, 0] rfl ?_
          refine j_iconst (pc := 143) C dX1_most_143 ?_
          refine j_istore (pc := 144) C (lv' := [(0, .ref o), (1, .int (zI a)), (2, .int (zI L)), (3, .ref q1_), (4, .int (zI d)), (5, .ref sa), (6, .int (zI S)), (7, .int (zI 0))]) dX1_most_144 (by decide) [1, 2, 3, 4, 5, 6, 7, 0] rfl ?_
          refine J.cast (ws' := gA c1 q1_ ((L + 1).toNat) g ++ (gO o la sa dy li so sp ++ (gR c2 la L.toNat r ++ (gR c2 sa S.toNat q ++ (gB c1 r L.toNat 2 (fL K Dm) ++ (gB c1 q S.toNat 4 (fS lo hi su db) ++ ([]))))))) (lv' := [(0, .ref o), (1, .int (zI a)), (2, .int (zI L)), (3, .ref q1_), (4, .int (zI d)), (5, .ref sa), (6, .int (zI S)), (7, .int (zI (((0 : Int)))))]) ?_ (by rfl) (by rfl) rfl
          refine J.widen (k := 1) (n := (L + 1).toNat) (by omega) (by omega) ?_
          refine j_loop (X := (Int → Int) × Int) (fun (i : Int) x9 => gA c1 q1_ ((L + 1).toNat) x9.1 ++ (gO o la sa dy li so sp ++ (gR c2 la L.toNat r ++ (gR c2 sa S.toNat q ++ (gB c1 r L.toNat 2 (fL K Dm) ++ (gB c1 q S.toNat 4 (fS lo hi su db) ++ ([]))))))) (fun (i : Int) x9 => [(0, .ref o), (1, .int (zI a)), (2, .int (zI L)), (3, .ref q1_), (4, .int (zI x9.2)), (5, .ref sa), (6, .int (zI S)), (7, .int (zI i))]) (fun (i : Int) x9 => ST L a (wg L lo hi su db M S) f (EA f L ∧ EB lo hi su db f i) x9.1 x9.2) (fun (i : Int) => 1) (fun (i : Int) => (L + 1).toNat) (0 : Int) S (by omega) ?_ ?_ ⟨g, d⟩ (hI_62.skip (fun q9 hq => ⟨hq, fun j j0 j1 => absurd j1 (by omega)⟩))
          · intro i x9 h0_146 h1_146 hI_146 hk_146
            obtain ⟨g, d⟩ := x9
            try dsimp only at hI_146 hk_146 ⊢
            obtain ⟨s1, s2, s3, s4, s5, s6, s7⟩ := hs i h0_146 h1_146
            have hz := zs_bnd hf (lo i) (hi i + 1) s1 (by omega) (by omega)
            have hb1 := hI_146.1.1 (lo i) s1 (by omega)
            have hb2 := hI_146.1.1 (hi i + 1) (by omega) (by omega)
            have hb3 := wB a (lo i) h0 h1 s1 (by omega)
            have hb4 := wB a (hi i + 1) h0 h1 (by omega) (by omega)
            have hy1 := wy hok M a (lo i) (hi i + 1) (su i + db i) h0 h1 s1 (by omega) (by omega) (by omega) (hE9.2 i h0_146 h1_146).1
            have hy2 := wy hok M a (hi i + 1) (lo i) (db i - su i) h0 h1 (by omega) (by omega) s1 (by omega) (hE9.2 i h0_146 h1_146).2
            refine j_iload (pc := 146) C dX1_most_146 7 rfl ?_
            refine j_iload (pc := 148) C dX1_most_148 6 rfl ?_
            refine j_icmp_ge (pc := 150) C 252 dX1_most_150 (by decide) ⟨by omega, by omega⟩ ⟨by omega, by omega⟩ (fun c_150 => absurd c_150 (by omega)) (fun c_150 => ?_)
            refine j_aload (pc := 153) C dX1_most_153 5 rfl ?_
            refine j_iload (pc := 155) C dX1_most_155 7 rfl ?_
            refine j_aald (pc := 157) C _ 1 (g := q) (At.r (At.r (At.r (At.l (k := 0) rfl)))) rfl (by omega) (by omega) (by omega) dX1_most_157 ?_
            refine j_astore (pc := 158) C (lv' := [(0, .ref o), (1, .int (zI a)), (2, .int (zI L)), (3, .ref q1_), (4, .int (zI d)), (5, .ref sa), (6, .int (zI S)), (7, .int (zI i)), (8, .ref (q i.toNat))]) dX1_most_158 (by decide) [1, 2, 3, 4, 5, 6, 7, 8, 0] rfl ?_
            refine j_aload_n (pc := 160) C dX1_most_160 3 rfl ?_
            refine j_aload (pc := 161) C dX1_most_161 8 rfl ?_
            refine j_iconst (pc := 163) C dX1_most_163 ?_
            refine j_iald (pc := 164) C _ 0 (At.r (At.r (At.r (At.r (At.r (At.l (gB_at (by omega) (by omega)))))))) rfl (by omega) (by omega) (by omega) dX1_most_164 ?_
            refine J.cast (ws' := gA c1 q1_ ((L + 1).toNat) g ++ (gO o la sa dy li so sp ++ (gR c2 la L.toNat r ++ (gR c2 sa S.toNat q ++ (gB c1 r L.toNat 2 (fL K Dm) ++ (gB c1 q S.toNat 4 (fS lo hi su db) ++ ([]))))))) (lv' := [(0, .ref o), (1, .int (zI a)), (2, .int (zI L)), (3, .ref q1_), (4, .int (zI d)), (5, .ref sa), (6, .int (zI S)), (7, .int (zI i)), (8, .ref (q i.toNat))]) (st' := [.int (zI (lo i)), .ref q1_]) ?_ rfl rfl rfl
            refine j_iald (pc := 165) C _ 0 (At.l (k := 0) rfl) rfl (by omega) (by omega) (by omega) dX1_most_165 ?_
            refine j_aload (pc := 166) C dX1_most_166 8 rfl ?_
            refine j_iconst (pc := 168) C dX1_most_168 ?_
            refine j_iald (pc := 169) C _ 0 (At.r (At.r (At.r (At.r (At.r (At.l (gB_at (by omega) (by omega)))))))) rfl (by omega) (by omega) (by omega) dX1_most_169 ?_
            refine J.cast (ws' := gA c1 q1_ ((L + 1).toNat) g ++ (gO o la sa dy li so sp ++ (gR c2 la L.toNat r ++ (gR c2 sa S.toNat q ++ (gB c1 r L.toNat 2 (fL K Dm) ++ (gB c1 q S.toNat 4 (fS lo hi su db) ++ ([]))))))) (lv' := [(0, .ref o), (1, .int (zI a)), (2, .int (zI L)), (3, .ref q1_), (4, .int (zI d)), (5, .ref sa), (6, .int (zI S)), (7, .int (zI i)), (8, .ref (q i.toNat))]) (st' := [.int (zI (su i)), .int (zI (g (lo i)))]) ?_ rfl rfl rfl
            refine j_iadd (pc := 170) C dX1_most_170 ?_
            refine j_aload (pc := 171) C dX1_most_171 8 rfl ?_
            refine j_iconst (pc := 173) C dX1_most_173 ?_
            refine j_iald (pc := 174) C _ 0 (At.r (At.r (At.r (At.r (At.r (At.l (gB_at (by omega) (by omega)))))))) rfl (by omega) (by omega) (by omega) dX1_most_174 ?_
            refine J.cast (ws' := gA c1 q1_ ((L + 1).toNat) g ++ (gO o la sa dy li so sp ++ (gR c2 la L.toNat r ++ (gR c2 sa S.toNat q ++ (gB c1 r L.toNat 2 (fL K Dm) ++ (gB c1 q S.toNat 4 (fS lo hi su db) ++ ([]))))))) (lv' := [(0, .ref o), (1, .int (zI a)), (2, .int (zI L)), (3, .ref q1_), (4, .int (zI d)), (5, .ref sa), (6, .int (zI S)), (7, .int (zI i)), (8, .ref (q i.toNat))]) (st' := [.int (zI (db i)), .int (zI ((g (lo i)) + (su i)))]) ?_ rfl rfl rfl
            refine j_iadd (pc := 175) C dX1_most_175 ?_
            refine j_istore (pc := 176) C (lv' := [(0, .ref o), (1, .int (zI a)), (2, .int (zI L)), (3, .ref q1_), (4, .int (zI d)), (5, .ref sa), (6, .int (zI S)), (7, .int (zI i)), (8, .ref (q i.toNat)), (9, .int (zI (((g (lo i)) + (su i)) + (db i))))]) dX1_most_176 (by decide) [1, 2, 3, 4, 5, 6, 7, 8, 9, 0] rfl ?_
            refine j_aload_n (pc := 178) C dX1_most_178 3 rfl ?_
            refine j_aload (pc := 179) C dX1_most_179 8 rfl ?_
            refine j_iconst (pc := 181) C dX1_most_181 ?_
            refine j_iald (pc := 182) C _ 0 (At.r (At.r (At.r (At.r (At.r (At.l (gB_at (by omega) (by omega)))))))) rfl (by omega) (by omega) (by omega) dX1_most_182 ?_
            refine J.cast (ws' := gA c1 q1_ ((L + 1).toNat) g ++ (gO o la sa dy li so sp ++ (gR c2 la L.toNat r ++ (gR c2 sa S.toNat q ++ (gB c1 r L.toNat 2 (fL K Dm) ++ (gB c1 q S.toNat 4 (fS lo hi su db) ++ ([]))))))) (lv' := [(0, .ref o), (1, .int (zI a)), (2, .int (zI L)), (3, .ref q1_), (4, .int (zI d)), (5, .ref sa), (6, .int (zI S)), (7, .int (zI i)), (8, .ref (q i.toNat)), (9, .int (zI (((g (lo i)) + (su i)) + (db i))))]) (st' := [.int (zI (hi i)), .ref q1_]) ?_ rfl rfl rfl
            refine j_iconst (pc := 183) C dX1_most_183 ?_
            refine j_iadd (pc := 184) C dX1_most_184 ?_
            refine j_iald (pc := 185) C _ 0 (At.l (k := 0) rfl) rfl (by omega) (by omega) (by omega) dX1_most_185 ?_
            refine j_aload (pc := 186) C dX1_most_186 8 rfl ?_
            refine j_iconst (pc := 188) C dX1_most_188 ?_
            refine j_iald (pc := 189) C _ 0 (At.r (At.r (At.r (At.r (At.r (At.l (gB_at (by omega) (by omega)))))))) rfl (by omega) (by omega) (by omega) dX1_most_189 ?_
            refine J.cast (ws' := gA c1 q1_ ((L + 1).toNat) g ++ (gO o la sa dy li so sp ++ (gR c2 la L.toNat r ++ (gR c2 sa S.toNat q ++ (gB c1 r L.toNat 2 (fL K Dm) ++ (gB c1 q S.toNat 4 (fS lo hi su db) ++ ([]))))))) (lv' := [(0, .ref o), (1, .int (zI a)), (2, .int (zI L)), (3, .ref q1_), (4, .int (zI d)), (5, .ref sa), (6, .int (zI S)), (7, .int (zI i)), (8, .ref (q i.toNat)), (9, .int (zI (((g (lo i)) + (su i)) + (db i))))]) (st' := [.int (zI (su i)), .int (zI (g ((hi i) + 1)))]) ?_ rfl rfl rfl
            refine j_isub (pc := 190) C dX1_most_190 ?_
            refine j_aload (pc := 191) C dX1_most_191 8 rfl ?_
            refine j_iconst (pc := 193) C dX1_most_193 ?_
            refine j_iald (pc := 194) C _ 0 (At.r (At.r (At.r (At.r (At.r (At.l (gB_at (by omega) (by omega)))))))) rfl (by omega) (by omega) (by omega) dX1_most_194 ?_
            refine J.cast (ws' := gA c1 q1_ ((L + 1).toNat) g ++ (gO o la sa dy li so sp ++ (gR c2 la L.toNat r ++ (gR c2 sa S.toNat q ++ (gB c1 r L.toNat 2 (fL K Dm) ++ (gB c1 q S.toNat 4 (fS lo hi su db) ++ ([]))))))) (lv' := [(0, .ref o), (1, .int (zI a)), (2, .int (zI L)), (3, .ref q1_), (4, .int (zI d)), (5, .ref sa), (6, .int (zI S)), (7, .int (zI i)), (8, .ref (q i.toNat)), (9, .int (zI (((g (lo i)) + (su i)) + (db i))))]) (st' := [.int (zI (db i)), .int (zI ((g ((hi i) + 1)) - (su i)))]) ?_ rfl rfl rfl
            refine j_iadd (pc := 195) C dX1_most_195 ?_
            refine j_istore (pc := 196) C (lv' := [(0, .ref o), (1, .int (zI a)), (2, .int (zI L)), (3, .ref q1_), (4, .int (zI d)), (5, .ref sa), (6, .int (zI S)), (7, .int (zI i)), (8, .ref (q i.toNat)), (9, .int (zI (((g (lo i)) + (su i)) + (db i)))), (10, .int (zI (((g ((hi i) + 1)) - (su i)) + (db i))))]) dX1_most_196 (by decide) [1, 2, 3, 4, 5, 6, 7, 8, 9, 10, 0] rfl ?_
            refine j_iload (pc := 198) C dX1_most_198 9 rfl ?_
            refine j_aload_n (pc := 200) C dX1_most_200 3 rfl ?_
            refine j_aload (pc := 201) C dX1_most_201 8 rfl ?_
            refine j_iconst (pc := 203) C dX1_most_203 ?_
            refine j_iald (pc := 204) C _ 0 (At.r (At.r (At.r (At.r (At.r (At.l (gB_at (by omega) (by omega)))))))) rfl (by omega) (by omega) (by omega) dX1_most_204 ?_
            refine J.cast (ws' := gA c1 q1_ ((L + 1).toNat) g ++ (gO o la sa dy li so sp ++ (gR c2 la L.toNat r ++ (gR c2 sa S.toNat q ++ (gB c1 r L.toNat 2 (fL K Dm) ++ (gB c1 q S.toNat 4 (fS lo hi su db) ++ ([]))))))) (lv' := [(0, .ref o), (1, .int (zI a)), (2, .int (zI L)), (3, .ref q1_), (4, .int (zI d)), (5, .ref sa), (6, .int (zI S)), (7, .int (zI i)), (8, .ref (q i.toNat)), (9, .int (zI (((g (lo i)) + (su i)) + (db i)))), (10, .int (zI (((g ((hi i) + 1)) - (su i)) + (db i))))]) (st' := [.int (zI (hi i)), .ref q1_, .int (zI (((g (lo i)) + (su i)) + (db i)))]) ?_ rfl rfl rfl
            refine j_iconst (pc := 205) C dX1_most_205 ?_
            refine j_iadd (pc := 206) C dX1_most_206 ?_
            refine j_iald (pc := 207) C _ 0 (At.l (k := 0) rfl) rfl (by omega) (by omega) (by omega) dX1_most_207 ?_
            refine j_icmp_ge (pc := 208) C 224 dX1_most_208 (by decide) ⟨by omega, by omega⟩ ⟨by omega, by omega⟩ (fun c_208 => ?_) (fun c_208 => ?_)
            · skip
              refine j_iload (pc := 224) C dX1_most_224 10 rfl ?_
              refine j_aload_n (pc := 226) C dX1_most_226 3 rfl ?_
              refine j_aload (pc := 227) C dX1_most_227 8 rfl ?_
              refine j_iconst (pc := 229) C dX1_most_229 ?_
              refine j_iald (pc := 230) C _ 0 (At.r (At.r (At.r (At.r (At.r (At.l (gB_at (by omega) (by omega)))))))) rfl (by omega) (by omega) (by omega) dX1_most_230 ?_
              refine J.cast (ws' := gA c1 q1_ ((L + 1).toNat) g ++ (gO o la sa dy li so sp ++ (gR c2 la L.toNat r ++ (gR c2 sa S.toNat q ++ (gB c1 r L.toNat 2 (fL K Dm) ++ (gB c1 q S.toNat 4 (fS lo hi su db) ++ ([]))))))) (lv' := [(0, .ref o), (1, .int (zI a)), (2, .int (zI L)), (3, .ref q1_), (4, .int (zI d)), (5, .ref sa), (6, .int (zI S)), (7, .int (zI i)), (8, .ref (q i.toNat)), (9, .int (zI (((g (lo i)) + (su i)) + (db i)))), (10, .int (zI (((g ((hi i) + 1)) - (su i)) + (db i))))]) (st' := [.int (zI (lo i)), .ref q1_, .int (zI (((g ((hi i) + 1)) - (su i)) + (db i)))]) ?_ rfl rfl rfl
              refine j_iald (pc := 231) C _ 0 (At.l (k := 0) rfl) rfl (by omega) (by omega) (by omega) dX1_most_231 ?_
              refine j_icmp_ge (pc := 232) C 246 dX1_most_232 (by decide) ⟨by omega, by omega⟩ ⟨by omega, by omega⟩ (fun c_232 => ?_) (fun c_232 => ?_)
              · skip
                refine j_iinc (pc := 246) C (x := i) (lv' := [(0, .ref o), (1, .int (zI a)), (2, .int (zI L)), (3, .ref q1_), (4, .int (zI d)), (5, .ref sa), (6, .int (zI S)), (7, .int (zI (i + 1))), (8, .ref (q i.toNat)), (9, .int (zI (((g (lo i)) + (su i)) + (db i)))), (10, .int (zI (((g ((hi i) + 1)) - (su i)) + (db i))))]) dX1_most_246 7 rfl (by decide) [1, 2, 3, 4, 5, 6, 7, 0, 8, 9, 10] rfl ?_
                refine j_goto (pc := 249) C 146 dX1_most_249 (by decide) ?_
                refine J.pick (lv' := [(0, .ref o), (1, .int (zI a)), (2, .int (zI L)), (3, .ref q1_), (4, .int (zI d)), (5, .ref sa), (6, .int (zI S)), (7, .int (zI (i + 1)))]) [0, 1, 2, 3, 4, 5, 6, 7] rfl ?_
                exact J.widen (by omega) (by omega) (J.cast (hk_146 ⟨g, d⟩ (hI_146.skip (fun q9 hq => ⟨hq.1, EB.up hq.2 (by subst q9; omega) (by subst q9; omega)⟩))) (by rfl) (by rfl) rfl)
              · skip
                refine j_aload_n (pc := 235) C dX1_most_235 3 rfl ?_
                refine j_aload (pc := 236) C dX1_most_236 8 rfl ?_
                refine j_iconst (pc := 238) C dX1_most_238 ?_
                refine j_iald (pc := 239) C _ 0 (At.r (At.r (At.r (At.r (At.r (At.l (gB_at (by omega) (by omega)))))))) rfl (by omega) (by omega) (by omega) dX1_most_239 ?_
                refine J.cast (ws' := gA c1 q1_ ((L + 1).toNat) g ++ (gO o la sa dy li so sp ++ (gR c2 la L.toNat r ++ (gR c2 sa S.toNat q ++ (gB c1 r L.toNat 2 (fL K Dm) ++ (gB c1 q S.toNat 4 (fS lo hi su db) ++ ([]))))))) (lv' := [(0, .ref o), (1, .int (zI a)), (2, .int (zI L)), (3, .ref q1_), (4, .int (zI d)), (5, .ref sa), (6, .int (zI S)), (7, .int (zI i)), (8, .ref (q i.toNat)), (9, .int (zI (((g (lo i)) + (su i)) + (db i)))), (10, .int (zI (((g ((hi i) + 1)) - (su i)) + (db i))))]) (st' := [.int (zI (lo i)), .ref q1_]) ?_ rfl rfl rfl
                refine j_iload (pc := 240) C dX1_most_240 10 rfl ?_
                refine j_iast (pc := 242) C _ 0 (At.l (k := 0) rfl) rfl (by omega) (by omega) (by omega) (ws' := gA c1 q1_ ((L + 1).toNat) (upZ g (lo i) (((g ((hi i) + 1)) - (su i)) + (db i))) ++ (gO o la sa dy li so sp ++ (gR c2 la L.toNat r ++ (gR c2 sa S.toNat q ++ (gB c1 r L.toNat 2 (fL K Dm) ++ (gB c1 q S.toNat 4 (fS lo hi su db) ++ ([]))))))) (Pu.l (k := 0) (hk := rfl) rfl) dX1_most_242 ?_
                refine j_iconst (pc := 243) C dX1_most_243 ?_
                refine j_istore (pc := 244) C (lv' := [(0, .ref o), (1, .int (zI a)), (2, .int (zI L)), (3, .ref q1_), (4, .int (zI 1)), (5, .ref sa), (6, .int (zI S)), (7, .int (zI i)), (8, .ref (q i.toNat)), (9, .int (zI (((g (lo i)) + (su i)) + (db i)))), (10, .int (zI (((g ((hi i) + 1)) - (su i)) + (db i))))]) dX1_most_244 (by decide) [1, 2, 3, 4, 0, 5, 6, 7, 8, 9, 10] rfl ?_
                refine j_iinc (pc := 246) C (x := i) (lv' := [(0, .ref o), (1, .int (zI a)), (2, .int (zI L)), (3, .ref q1_), (4, .int (zI 1)), (5, .ref sa), (6, .int (zI S)), (7, .int (zI (i + 1))), (8, .ref (q i.toNat)), (9, .int (zI (((g (lo i)) + (su i)) + (db i)))), (10, .int (zI (((g ((hi i) + 1)) - (su i)) + (db i))))]) dX1_most_246 7 rfl (by decide) [1, 2, 3, 4, 5, 6, 7, 0, 8, 9, 10] rfl ?_
                refine j_goto (pc := 249) C 146 dX1_most_249 (by decide) ?_
                refine J.pick (lv' := [(0, .ref o), (1, .int (zI a)), (2, .int (zI L)), (3, .ref q1_), (4, .int (zI 1)), (5, .ref sa), (6, .int (zI S)), (7, .int (zI (i + 1)))]) [0, 1, 2, 3, 4, 5, 6, 7] rfl ?_
                exact J.widen (by omega) (by omega) (J.cast (hk_146 ⟨upZ g (lo i) (((g ((hi i) + 1)) - (su i)) + (db i)), 1⟩ (ST.set hI_146 _ (lo i) _ (by omega) (by omega) (by omega) (by omega))) (by rfl) (by rfl) rfl)
            · skip
              refine j_aload_n (pc := 211) C dX1_most_211 3 rfl ?_
              refine j_aload (pc := 212) C dX1_most_212 8 rfl ?_
              refine j_iconst (pc := 214) C dX1_most_214 ?_
              refine j_iald (pc := 215) C _ 0 (At.r (At.r (At.r (At.r (At.r (At.l (gB_at (by omega) (by omega)))))))) rfl (by omega) (by omega) (by omega) dX1_most_215 ?_
              refine J.cast (ws' := gA c1 q1_ ((L + 1).toNat) g ++ (gO o la sa dy li so sp ++ (gR c2 la L.toNat r ++ (gR c2 sa S.toNat q ++ (gB c1 r L.toNat 2 (fL K Dm) ++ (gB c1 q S.toNat 4 (fS lo hi su db) ++ ([]))))))) (lv' := [(0, .ref o), (1, .int (zI a)), (2, .int (zI L)), (3, .ref q1_), (4, .int (zI d)), (5, .ref sa), (6, .int (zI S)), (7, .int (zI i)), (8, .ref (q i.toNat)), (9, .int (zI (((g (lo i)) + (su i)) + (db i)))), (10, .int (zI (((g ((hi i) + 1)) - (su i)) + (db i))))]) (st' := [.int (zI (hi i)), .ref q1_]) ?_ rfl rfl rfl
              refine j_iconst (pc := 216) C dX1_most_216 ?_
              refine j_iadd (pc := 217) C dX1_most_217 ?_
              refine j_iload (pc := 218) C dX1_most_218 9 rfl ?_
              refine j_iast (pc := 220) C _ 0 (At.l (k := 0) rfl) rfl (by omega) (by omega) (by omega) (ws' := gA c1 q1_ ((L + 1).toNat) (upZ g ((hi i) + 1) (((g (lo i)) + (su i)) + (db i))) ++ (gO o la sa dy li so sp ++ (gR c2 la L.toNat r ++ (gR c2 sa S.toNat q ++ (gB c1 r L.toNat 2 (fL K Dm) ++ (gB c1 q S.toNat 4 (fS lo hi su db) ++ ([]))))))) (Pu.l (k := 0) (hk := rfl) rfl) dX1_most_220 ?_
              refine j_iconst (pc := 221) C dX1_most_221 ?_
              refine j_istore (pc := 222) C (lv' := [(0, .ref o), (1, .int (zI a)), (2, .int (zI L)), (3, .ref q1_), (4, .int (zI 1)), (5, .ref sa), (6, .int (zI S)), (7, .int (zI i)), (8, .ref (q i.toNat)), (9, .int (zI (((g (lo i)) + (su i)) + (db i)))), (10, .int (zI (((g ((hi i) + 1)) - (su i)) + (db i))))]) dX1_most_222 (by decide) [1, 2, 3, 4, 0, 5, 6, 7, 8, 9, 10] rfl ?_
              refine j_iload (pc := 224) C dX1_most_224 10 rfl ?_
              refine j_aload_n (pc := 226) C dX1_most_226 3 rfl ?_
              refine j_aload (pc := 227) C dX1_most_227 8 rfl ?_
              refine j_iconst (pc := 229) C dX1_most_229 ?_
              refine j_iald (pc := 230) C _ 0 (At.r (At.r (At.r (At.r (At.r (At.l (gB_at (by omega) (by omega)))))))) rfl (by omega) (by omega) (by omega) dX1_most_230 ?_
              refine J.cast (ws' := gA c1 q1_ ((L + 1).toNat) (upZ g ((hi i) + 1) (((g (lo i)) + (su i)) + (db i))) ++ (gO o la sa dy li so sp ++ (gR c2 la L.toNat r ++ (gR c2 sa S.toNat q ++ (gB c1 r L.toNat 2 (fL K Dm) ++ (gB c1 q S.toNat 4 (fS lo hi su db) ++ ([]))))))) (lv' := [(0, .ref o), (1, .int (zI a)), (2, .int (zI L)), (3, .ref q1_), (4, .int (zI 1)), (5, .ref sa), (6, .int (zI S)), (7, .int (zI i)), (8, .ref (q i.toNat)), (9, .int (zI (((g (lo i)) + (su i)) + (db i)))), (10, .int (zI (((g ((hi i) + 1)) - (su i)) + (db i))))]) (st' := [.int (zI (lo i)), .ref q1_, .int (zI (((g ((hi i) + 1)) - (su i)) + (db i)))]) ?_ rfl rfl rfl
              refine j_iald (pc := 231) C _ 0 (At.l (k := 0) rfl) rfl (by omega) (by omega) (by omega) dX1_most_231 ?_
              have u1 : (upZ g ((hi i) + 1) (((g (lo i)) + (su i)) + (db i))) (lo i) = g (lo i) := upZ_n (by omega)
              refine j_icmp_ge (pc := 232) C 246 dX1_most_232 (by decide) ⟨by omega, by omega⟩ ⟨by omega, by omega⟩ (fun c_232 => ?_) (fun c_232 => ?_)
              · skip
                refine j_iinc (pc := 246) C (x := i) (lv' := [(0, .ref o), (1, .int (zI a)), (2, .int (zI L)), (3, .ref q1_), (4, .int (zI 1)), (5, .ref sa), (6, .int (zI S)), (7, .int (zI (i + 1))), (8, .ref (q i.toNat)), (9, .int (zI (((g (lo i)) + (su i)) + (db i)))), (10, .int (zI (((g ((hi i) + 1)) - (su i)) + (db i))))]) dX1_most_246 7 rfl (by decide) [1, 2, 3, 4, 5, 6, 7, 0, 8, 9, 10] rfl ?_
                refine j_goto (pc := 249) C 146 dX1_most_249 (by decide) ?_
                refine J.pick (lv' := [(0, .ref o), (1, .int (zI a)), (2, .int (zI L)), (3, .ref q1_), (4, .int (zI 1)), (5, .ref sa), (6, .int (zI S)), (7, .int (zI (i + 1)))]) [0, 1, 2, 3, 4, 5, 6, 7] rfl ?_
                exact J.widen (by omega) (by omega) (J.cast (hk_146 ⟨upZ g ((hi i) + 1) (((g (lo i)) + (su i)) + (db i)), 1⟩ (ST.set hI_146 _ (hi i + 1) _ (by omega) (by omega) (by omega) (by omega))) (by rfl) (by rfl) rfl)
              · skip
                refine j_aload_n (pc := 235) C dX1_most_235 3 rfl ?_
                refine j_aload (pc := 236) C dX1_most_236 8 rfl ?_
                refine j_iconst (pc := 238) C dX1_most_238 ?_
                refine j_iald (pc := 239) C _ 0 (At.r (At.r (At.r (At.r (At.r (At.l (gB_at (by omega) (by omega)))))))) rfl (by omega) (by omega) (by omega) dX1_most_239 ?_
                refine J.cast (ws' := gA c1 q1_ ((L + 1).toNat) (upZ g ((hi i) + 1) (((g (lo i)) + (su i)) + (db i))) ++ (gO o la sa dy li so sp ++ (gR c2 la L.toNat r ++ (gR c2 sa S.toNat q ++ (gB c1 r L.toNat 2 (fL K Dm) ++ (gB c1 q S.toNat 4 (fS lo hi su db) ++ ([]))))))) (lv' := [(0, .ref o), (1, .int (zI a)), (2, .int (zI L)), (3, .ref q1_), (4, .int (zI 1)), (5, .ref sa), (6, .int (zI S)), (7, .int (zI i)), (8, .ref (q i.toNat)), (9, .int (zI (((g (lo i)) + (su i)) + (db i)))), (10, .int (zI (((g ((hi i) + 1)) - (su i)) + (db i))))]) (st' := [.int (zI (lo i)), .ref q1_]) ?_ rfl rfl rfl
                refine j_iload (pc := 240) C dX1_most_240 10 rfl ?_
                refine j_iast (pc := 242) C _ 0 (At.l (k := 0) rfl) rfl (by omega) (by omega) (by omega) (ws' := gA c1 q1_ ((L + 1).toNat) (upZ (upZ g ((hi i) + 1) (((g (lo i)) + (su i)) + (db i))) (lo i) (((g ((hi i) + 1)) - (su i)) + (db i))) ++ (gO o la sa dy li so sp ++ (gR c2 la L.toNat r ++ (gR c2 sa S.toNat q ++ (gB c1 r L.toNat 2 (fL K Dm) ++ (gB c1 q S.toNat 4 (fS lo hi su db) ++ ([]))))))) (Pu.l (k := 0) (hk := rfl) rfl) dX1_most_242 ?_
                refine j_iconst (pc := 243) C dX1_most_243 ?_
                refine j_istore (pc := 244) C (lv' := [(0, .ref o), (1, .int (zI a)), (2, .int (zI L)), (3, .ref q1_), (4, .int (zI 1)), (5, .ref sa), (6, .int (zI S)), (7, .int (zI i)), (8, .ref (q i.toNat)), (9, .int (zI (((g (lo i)) + (su i)) + (db i)))), (10, .int (zI (((g ((hi i) + 1)) - (su i)) + (db i))))]) dX1_most_244 (by decide) [1, 2, 3, 4, 0, 5, 6, 7, 8, 9, 10] rfl ?_
                refine j_iinc (pc := 246) C (x := i) (lv' := [(0, .ref o), (1, .int (zI a)), (2, .int (zI L)), (3, .ref q1_), (4, .int (zI 1)), (5, .ref sa), (6, .int (zI S)), (7, .int (zI (i + 1))), (8, .ref (q i.toNat)), (9, .int (zI (((g (lo i)) + (su i)) + (db i)))), (10, .int (zI (((g ((hi i) + 1)) - (su i)) + (db i))))]) dX1_most_246 7 rfl (by decide) [1, 2, 3, 4, 5, 6, 7, 0, 8, 9, 10] rfl ?_
                refine j_goto (pc := 249) C 146 dX1_most_249 (by decide) ?_
                refine J.pick (lv' := [(0, .ref o), (1, .int (zI a)), (2, .int (zI L)), (3, .ref q1_), (4, .int (zI 1)), (5, .ref sa), (6, .int (zI S)), (7, .int (zI (i + 1)))]) [0, 1, 2, 3, 4, 5, 6, 7] rfl ?_
                exact J.widen (by omega) (by omega) (J.cast (hk_146 ⟨upZ (upZ g ((hi i) + 1) (((g (lo i)) + (su i)) + (db i))) (lo i) (((g ((hi i) + 1)) - (su i)) + (db i)), 1⟩ (ST.set (ST.set hI_146 True (hi i + 1) _ (by omega) (by omega) (by omega) (by omega)) _ (lo i) _ (by omega) c_232 (by omega) (by omega))) (by rfl) (by rfl) rfl)
          · intro x9 hI_146
            obtain ⟨g, d⟩ := x9
            try dsimp only at hI_146 ⊢
            refine j_iload (pc := 146) C dX1_most_146 7 rfl ?_
            refine j_iload (pc := 148) C dX1_most_148 6 rfl ?_
            refine j_icmp_ge (pc := 150) C 252 dX1_most_150 (by decide) ⟨by omega, by omega⟩ ⟨by omega, by omega⟩ (fun c_150 => ?_) (fun c_150 => absurd c_150 (by omega))
            refine j_goto (pc := 252) C 51 dX1_most_252 (by decide) ?_
            refine J.pick (lv' := [(0, .ref o), (1, .int (zI a)), (2, .int (zI L)), (3, .ref q1_), (4, .int (zI d))]) [0, 1, 2, 3, 4] rfl ?_
            exact J.cast (hk_51 ⟨g, d⟩ ⟨hI_146.1, hI_146.2.1, fun q9 => (by have e9 := hI_146.2.2.2 q9; rw [e9.1]; exact e9.2)⟩ (mst_mu hL0 hI_146)) (by rfl) (by rfl) rfl
