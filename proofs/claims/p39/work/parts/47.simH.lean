/-! ===== in the end all is as by hand ===== -/
set_option maxHeartbeats 4000000 in
set_option maxRecDepth 100000 in
theorem kX1_isSame (l : Launch) (D : va_G) (c1 c2 c3 : ClassId) (h : Nat → Nat) (K Dm : Int → Int) (L : Int) (lo hi su db : Int → Int) (S dy li so sp : Int) (tu ah : Int → Int) (M : Int → Int → Int) (o la sa : Nat) (r q : Nat → Nat) (t : Int) (hI : IU t (K, Dm, L, lo, hi, su, db, S, dy, li, so, sp, tu, ah, M, la, sa, r, q)) (t0 : 0 ≤ t) (t1 : t ≤ 500) : eI l yX1_isSame wsX1_isSame ({ frames := 4, cells := 60, slots := 700, locals := 91 }) D (tyS c1 c2 c3) [.ref o, .ref (h 0)] (wU h c1 c2 o (K, Dm, L, lo, hi, su, db, S, dy, li, so, sp, tu, ah, M, la, sa, r, q)) E1 (fun (u9 : Unit) => True) (fun (u9 : Unit) => []) (fun (u9 : Unit) => zI 1) 60 700 := by
  refine eI.of (cc := cX1_isSame) (maxL := 12) (ret := .boolean) (by decide) rfl (lv := [(0, .ref o), (1, .ref (h 0))]) [0, 1] rfl (Nat.le_of_ble_eq_true rfl) ?_
  intro p e s m args below meth c A C hr hE hAw
  have ho : va_AOA .int s := hE
  have C : GC p s m args meth c cX1_isSame 12 RX1 wsX1_isSame D (tyS c1 c2 c3) A := C
  have hin : ∀ w ∈ wsX10, w ∈ wsX1_isSame := fun _ h => List.mem_cons_of_mem _ (List.mem_append_left _ (List.mem_append_left _ (List.mem_append_left _ (List.mem_append_right _ h))))
  obtain ⟨hR, hdy, hso, hsp⟩ := id hI
  have hok := hR.1
  obtain ⟨⟨hL0, hL⟩, ⟨hS0, hS⟩, hf, hs⟩ := id hok
  have hkK := hR.2.2.1
  have hli := hR.2.2.2.1
  have hB := wz_B hok
  have hG : ∀ j, 0 ≤ j → j < L → 0 ≤ (wz L lo hi su db S) j (j + 1) ∧ (wz L lo hi su db S) j (j + 1) ≤ 480 := fun j j0 j1 => by have q1 := (wz_ok hok).1 j (j + 1) j0 (by omega) (by omega) (by omega); have q2 := zs_up Dm 0 j j0; have q3 := hf j j0 j1; omega
  have hzm := zs_bnd hf 0 L (by omega) hL0 (by omega)
  refine J.cast (ws' := wG h c1 c2 K Dm L lo hi su db S dy li so sp tu ah M ++ (gO o la sa dy li so sp ++ (gR c2 la L.toNat r ++ (gR c2 sa S.toNat q ++ (gB c1 r L.toNat 2 (fL K Dm) ++ (gB c1 q S.toNat 4 (fS lo hi su db) ++ ([]))))))) (lv' := [(0, .ref o), (1, .ref (h 0))]) (st' := []) ?_ (by rfl) rfl rfl
  refine j_aload_n (pc := 0) C dX1_isSame_0 0 rfl ?_
  refine j_get (pc := 1) C (ref := "GrainSiloLaw$Sim") (T := TX1) (N := 6) hin _ (At.r (At.l (k := 0) rfl)) rfl 4 (by decide) (C.w 1 rfl) rfl rfl dX1_isSame_1 ?_
  refine j_alen (pc := 4) C _ 1 (At.r (At.r (At.l (k := 0) rfl))) rfl (z := L) (alen_eq (by omega) (by omega)) dX1_isSame_4 ?_
  refine j_istore_n (pc := 5) C (lv' := [(0, .ref o), (1, .ref (h 0)), (2, .int (zI L))]) dX1_isSame_5 (by decide) [1, 2, 0] rfl ?_
  refine j_aload_n (pc := 6) C dX1_isSame_6 1 rfl ?_
  refine j_callPI (pc := 7) C (As := []) (rest := []) (wr := gO o la sa dy li so sp ++ (gR c2 la L.toNat r ++ (gR c2 sa S.toNat q ++ (gB c1 r L.toNat 2 (fL K Dm) ++ (gB c1 q S.toNat 4 (fS lo hi su db) ++ ([])))))) (kX0_layers l D h c1 c2 c3 K Dm L lo hi su db S dy li so sp tu ah M  ) (cwV 0 C.2.2.2.2.1 gX1_isSame_X0_layers rfl rfl rfl (by decide +kernel) ⟨Nat.le_of_ble_eq_true rfl, Nat.le_of_ble_eq_true rfl⟩) 0 (ci := 0) rfl rfl rfl dX1_isSame_7 rfl rfl (Nat.le_of_ble_eq_true rfl) ⟨(by show _ ≤ 60; omega), (by show _ ≤ 700; omega)⟩ ?_
  refine j_iload_n (pc := 10) C dX1_isSame_10 2 rfl ?_
  refine j_icmp_ne (pc := 11) C 98 dX1_isSame_11 (by decide) ⟨by omega, by omega⟩ ⟨by omega, by omega⟩ (fun c_11 => absurd c_11 (by omega)) (fun c_11 => ?_)
  refine j_aload_n (pc := 14) C dX1_isSame_14 1 rfl ?_
  refine j_callPI (pc := 15) C (As := []) (rest := []) (wr := gO o la sa dy li so sp ++ (gR c2 la L.toNat r ++ (gR c2 sa S.toNat q ++ (gB c1 r L.toNat 2 (fL K Dm) ++ (gB c1 q S.toNat 4 (fS lo hi su db) ++ ([])))))) (kX0_samples l D h c1 c2 c3 K Dm L lo hi su db S dy li so sp tu ah M  ) (cwV 0 C.2.2.2.2.1 gX1_isSame_X0_samples rfl rfl rfl (by decide +kernel) ⟨Nat.le_of_ble_eq_true rfl, Nat.le_of_ble_eq_true rfl⟩) 0 (ci := 0) rfl rfl rfl dX1_isSame_15 rfl rfl (Nat.le_of_ble_eq_true rfl) ⟨(by show _ ≤ 60; omega), (by show _ ≤ 700; omega)⟩ ?_
  refine j_aload_n (pc := 18) C dX1_isSame_18 0 rfl ?_
  refine j_get (pc := 19) C (ref := "GrainSiloLaw$Sim") (T := TX1) (N := 6) hin _ (At.r (At.l (k := 0) rfl)) rfl 5 (by decide) (C.w 2 rfl) rfl rfl dX1_isSame_19 ?_
  refine j_alen (pc := 22) C _ 1 (At.r (At.r (At.r (At.l (k := 0) rfl)))) rfl (z := S) (alen_eq (by omega) (by omega)) dX1_isSame_22 ?_
  refine j_icmp_ne (pc := 23) C 98 dX1_isSame_23 (by decide) ⟨by omega, by omega⟩ ⟨by omega, by omega⟩ (fun c_23 => absurd c_23 (by omega)) (fun c_23 => ?_)
  refine j_aload_n (pc := 26) C dX1_isSame_26 1 rfl ?_
  refine j_callPI (pc := 27) C (As := []) (rest := []) (wr := gO o la sa dy li so sp ++ (gR c2 la L.toNat r ++ (gR c2 sa S.toNat q ++ (gB c1 r L.toNat 2 (fL K Dm) ++ (gB c1 q S.toNat 4 (fS lo hi su db) ++ ([])))))) (kX0_day l D h c1 c2 c3 K Dm L lo hi su db S dy li so sp tu ah M  ) (cwV 0 C.2.2.2.2.1 gX1_isSame_X0_day rfl rfl rfl (by decide +kernel) ⟨Nat.le_of_ble_eq_true rfl, Nat.le_of_ble_eq_true rfl⟩) 0 (ci := 0) rfl rfl rfl dX1_isSame_27 rfl rfl (Nat.le_of_ble_eq_true rfl) ⟨(by show _ ≤ 60; omega), (by show _ ≤ 700; omega)⟩ ?_
  refine j_aload_n (pc := 30) C dX1_isSame_30 0 rfl ?_
  refine j_get (pc := 31) C (ref := "GrainSiloLaw$Sim") (T := TX1) (N := 6) hin _ (At.r (At.l (k := 0) rfl)) rfl 0 (by decide) (C.w 3 rfl) rfl rfl dX1_isSame_31 ?_
  refine j_icmp_ne (pc := 34) C 98 dX1_isSame_34 (by decide) ⟨by omega, by omega⟩ ⟨by omega, by omega⟩ (fun c_34 => absurd c_34 (by omega)) (fun c_34 => ?_)
  refine j_aload_n (pc := 37) C dX1_isSame_37 1 rfl ?_
  refine j_callPI (pc := 38) C (As := []) (rest := []) (wr := gO o la sa dy li so sp ++ (gR c2 la L.toNat r ++ (gR c2 sa S.toNat q ++ (gB c1 r L.toNat 2 (fL K Dm) ++ (gB c1 q S.toNat 4 (fS lo hi su db) ++ ([])))))) (kX0_limit l D h c1 c2 c3 K Dm L lo hi su db S dy li so sp tu ah M  ) (cwV 0 C.2.2.2.2.1 gX1_isSame_X0_limit rfl rfl rfl (by decide +kernel) ⟨Nat.le_of_ble_eq_true rfl, Nat.le_of_ble_eq_true rfl⟩) 0 (ci := 0) rfl rfl rfl dX1_isSame_38 rfl rfl (Nat.le_of_ble_eq_true rfl) ⟨(by show _ ≤ 60; omega), (by show _ ≤ 700; omega)⟩ ?_
  refine j_aload_n (pc := 41) C dX1_isSame_41 0 rfl ?_
  refine j_get (pc := 42) C (ref := "GrainSiloLaw$Sim") (T := TX1) (N := 6) hin _ (At.r (At.l (k := 0) rfl)) rfl 1 (by decide) (C.w 4 rfl) rfl rfl dX1_isSame_42 ?_
  refine j_icmp_ne (pc := 45) C 98 dX1_isSame_45 (by decide) ⟨by omega, by omega⟩ ⟨by omega, by omega⟩ (fun c_45 => absurd c_45 (by omega)) (fun c_45 => ?_)
  refine j_aload_n (pc := 48) C dX1_isSame_48 1 rfl ?_
  refine j_callPI (pc := 49) C (As := []) (rest := []) (wr := gO o la sa dy li so sp ++ (gR c2 la L.toNat r ++ (gR c2 sa S.toNat q ++ (gB c1 r L.toNat 2 (fL K Dm) ++ (gB c1 q S.toNat 4 (fS lo hi su db) ++ ([])))))) (kX0_sold l D h c1 c2 c3 K Dm L lo hi su db S dy li so sp tu ah M  ) (cwV 0 C.2.2.2.2.1 gX1_isSame_X0_sold rfl rfl rfl (by decide +kernel) ⟨Nat.le_of_ble_eq_true rfl, Nat.le_of_ble_eq_true rfl⟩) 0 (ci := 0) rfl rfl rfl dX1_isSame_49 rfl rfl (Nat.le_of_ble_eq_true rfl) ⟨(by show _ ≤ 60; omega), (by show _ ≤ 700; omega)⟩ ?_
  refine j_aload_n (pc := 52) C dX1_isSame_52 0 rfl ?_
  refine j_get (pc := 53) C (ref := "GrainSiloLaw$Sim") (T := TX1) (N := 6) hin _ (At.r (At.l (k := 0) rfl)) rfl 2 (by decide) (C.w 5 rfl) rfl rfl dX1_isSame_53 ?_
  refine j_icmp_ne (pc := 56) C 98 dX1_isSame_56 (by decide) ⟨by omega, by omega⟩ ⟨by omega, by omega⟩ (fun c_56 => absurd c_56 (by omega)) (fun c_56 => ?_)
  refine j_aload_n (pc := 59) C dX1_isSame_59 1 rfl ?_
  refine j_callPI (pc := 60) C (As := []) (rest := []) (wr := gO o la sa dy li so sp ++ (gR c2 la L.toNat r ++ (gR c2 sa S.toNat q ++ (gB c1 r L.toNat 2 (fL K Dm) ++ (gB c1 q S.toNat 4 (fS lo hi su db) ++ ([])))))) (kX0_spoilt l D h c1 c2 c3 K Dm L lo hi su db S dy li so sp tu ah M  ) (cwV 0 C.2.2.2.2.1 gX1_isSame_X0_spoilt rfl rfl rfl (by decide +kernel) ⟨Nat.le_of_ble_eq_true rfl, Nat.le_of_ble_eq_true rfl⟩) 0 (ci := 0) rfl rfl rfl dX1_isSame_60 rfl rfl (Nat.le_of_ble_eq_true rfl) ⟨(by show _ ≤ 60; omega), (by show _ ≤ 700; omega)⟩ ?_
  refine j_aload_n (pc := 63) C dX1_isSame_63 0 rfl ?_
  refine j_get (pc := 64) C (ref := "GrainSiloLaw$Sim") (T := TX1) (N := 6) hin _ (At.r (At.l (k := 0) rfl)) rfl 3 (by decide) (C.w 6 rfl) rfl rfl dX1_isSame_64 ?_
  refine j_icmp_ne (pc := 67) C 98 dX1_isSame_67 (by decide) ⟨by omega, by omega⟩ ⟨by omega, by omega⟩ (fun c_67 => absurd c_67 (by omega)) (fun c_67 => ?_)
  refine j_aload_n (pc := 70) C dX1_isSame_70 1 rfl ?_
  refine j_callPD (pc := 71) C (As := []) (rest := []) (wr := gO o la sa dy li so sp ++ (gR c2 la L.toNat r ++ (gR c2 sa S.toNat q ++ (gB c1 r L.toNat 2 (fL K Dm) ++ (gB c1 q S.toNat 4 (fS lo hi su db) ++ ([])))))) (kX0_meanDampness l D h c1 c2 c3 K Dm L lo hi su db S dy li so sp tu ah M  (by omega) (by omega) hok.2.2.1) (cwV 0 C.2.2.2.2.1 gX1_isSame_X0_meanDampness rfl rfl rfl (by decide +kernel) ⟨Nat.le_of_ble_eq_true rfl, Nat.le_of_ble_eq_true rfl⟩) 0 (ci := 0) rfl rfl rfl dX1_isSame_71 rfl rfl (Nat.le_of_ble_eq_true rfl) ⟨(by show _ ≤ 60; omega), (by show _ ≤ 700; omega)⟩ ?_
  refine J.join (X := Unit) (fun x9 => wG h c1 c2 K Dm L lo hi su db S dy li so sp tu ah M ++ (gO o la sa dy li so sp ++ (gR c2 la L.toNat r ++ (gR c2 sa S.toNat q ++ (gB c1 r L.toNat 2 (fL K Dm) ++ (gB c1 q S.toNat 4 (fS lo hi su db) ++ ([]))))))) (fun x9 => [(0, .ref o), (1, .ref (h 0)), (2, .int (zI L))]) (fun x9 => [.int (zI 0)]) (fun x9 => True) 95 (0) (0) ?_ ?_
  · intro x9 hJ_95
    try dsimp only at hJ_95 ⊢
    refine j_if_eq (pc := 95) C 100 dX1_isSame_95 (by decide) ⟨by omega, by omega⟩ (fun c_95 => ?_) (fun c_95 => absurd c_95 (by omega))
    refine j_iconst (pc := 100) C dX1_isSame_100 ?_
    refine j_istore_n (pc := 101) C (lv' := [(0, .ref o), (1, .ref (h 0)), (2, .int (zI L)), (3, .int (zI 0))]) dX1_isSame_101 (by decide) [1, 2, 3, 0] rfl ?_
    refine j_iconst (pc := 102) C dX1_isSame_102 ?_
    refine j_istore (pc := 103) C (lv' := [(0, .ref o), (1, .ref (h 0)), (2, .int (zI L)), (3, .int (zI 0)), (4, .int (zI 0))]) dX1_isSame_103 (by decide) [1, 2, 3, 4, 0] rfl ?_
    refine j_iconst (pc := 105) C dX1_isSame_105 ?_
    refine j_istore (pc := 106) C (lv' := [(0, .ref o), (1, .ref (h 0)), (2, .int (zI L)), (3, .int (zI 0)), (4, .int (zI 0)), (5, .int (zI 0))]) dX1_isSame_106 (by decide) [1, 2, 3, 4, 5, 0] rfl ?_
    refine j_iconst (pc := 108) C dX1_isSame_108 ?_
    refine j_istore (pc := 109) C (lv' := [(0, .ref o), (1, .ref (h 0)), (2, .int (zI L)), (3, .int (zI 0)), (4, .int (zI 0)), (5, .int (zI 0)), (6, .int (zI ((-1))))]) dX1_isSame_109 (by decide) [1, 2, 3, 4, 5, 6, 0] rfl ?_
    refine j_iconst (pc := 111) C dX1_isSame_111 ?_
    refine j_istore (pc := 112) C (lv' := [(0, .ref o), (1, .ref (h 0)), (2, .int (zI L)), (3, .int (zI 0)), (4, .int (zI 0)), (5, .int (zI 0)), (6, .int (zI ((-1)))), (7, .int (zI ((-1))))]) dX1_isSame_112 (by decide) [1, 2, 3, 4, 5, 6, 7, 0] rfl ?_
    refine j_iconst (pc := 114) C dX1_isSame_114 ?_
    refine j_newI (pc := 115) C (C.w 7 rfl) 0 rfl (n := 5) (by omega) (by omega) (by show _ ≤ 60; omega) (by show _ ≤ 700; omega) dX1_isSame_115 (fun q1_ => ?_)
    refine J.perm (ws' := wG h c1 c2 K Dm L lo hi su db S dy li so sp tu ah M ++ (gA c1 q1_ 5 (fun _ => 0) ++ (gO o la sa dy li so sp ++ (gR c2 la L.toNat r ++ (gR c2 sa S.toNat q ++ (gB c1 r L.toNat 2 (fL K Dm) ++ (gB c1 q S.toNat 4 (fS lo hi su db) ++ ([])))))))) (List.Perm.trans (List.Perm.of_eq (show _ = (wG h c1 c2 K Dm L lo hi su db S dy li so sp tu ah M ++ (gO o la sa dy li so sp ++ (gR c2 la L.toNat r ++ (gR c2 sa S.toNat q ++ (gB c1 r L.toNat 2 (fL K Dm) ++ (gB c1 q S.toNat 4 (fS lo hi su db) ++ ([]))))))) ++ (gA c1 q1_ 5 (fun _ => 0)) from rfl)) (perm_of_count (fun cnt h1_ h0_ => by simp only [wU, wS, wGS, h1_, h0_] <;> omega))) ?_
    refine j_dup (pc := 117) C dX1_isSame_117 rfl ?_
    refine j_iconst (pc := 118) C dX1_isSame_118 ?_
    refine j_iconst (pc := 119) C dX1_isSame_119 ?_
    refine j_iast (pc := 120) C _ 0 (At.r (At.l (k := 0) rfl)) rfl (by omega) (by omega) (by omega) (ws' := wG h c1 c2 K Dm L lo hi su db S dy li so sp tu ah M ++ (gA c1 q1_ 5 (upZ (fun _ => 0) 0 ((-1))) ++ (gO o la sa dy li so sp ++ (gR c2 la L.toNat r ++ (gR c2 sa S.toNat q ++ (gB c1 r L.toNat 2 (fL K Dm) ++ (gB c1 q S.toNat 4 (fS lo hi su db) ++ ([])))))))) (Pu.r (Pu.l (k := 0) (hk := rfl) rfl)) dX1_isSame_120 ?_
    refine j_dup (pc := 121) C dX1_isSame_121 rfl ?_
    refine j_iconst (pc := 122) C dX1_isSame_122 ?_
    refine j_iconst (pc := 123) C dX1_isSame_123 ?_
    refine j_iast (pc := 124) C _ 0 (At.r (At.l (k := 0) rfl)) rfl (by omega) (by omega) (by omega) (ws' := wG h c1 c2 K Dm L lo hi su db S dy li so sp tu ah M ++ (gA c1 q1_ 5 (upZ (upZ (fun _ => 0) 0 ((-1))) 1 ((-1))) ++ (gO o la sa dy li so sp ++ (gR c2 la L.toNat r ++ (gR c2 sa S.toNat q ++ (gB c1 r L.toNat 2 (fL K Dm) ++ (gB c1 q S.toNat 4 (fS lo hi su db) ++ ([])))))))) (Pu.r (Pu.l (k := 0) (hk := rfl) rfl)) dX1_isSame_124 ?_
    refine j_dup (pc := 125) C dX1_isSame_125 rfl ?_
    refine j_iconst (pc := 126) C dX1_isSame_126 ?_
    refine j_iconst (pc := 127) C dX1_isSame_127 ?_
    refine j_iast (pc := 128) C _ 0 (At.r (At.l (k := 0) rfl)) rfl (by omega) (by omega) (by omega) (ws' := wG h c1 c2 K Dm L lo hi su db S dy li so sp tu ah M ++ (gA c1 q1_ 5 (upZ (upZ (upZ (fun _ => 0) 0 ((-1))) 1 ((-1))) 2 ((-1))) ++ (gO o la sa dy li so sp ++ (gR c2 la L.toNat r ++ (gR c2 sa S.toNat q ++ (gB c1 r L.toNat 2 (fL K Dm) ++ (gB c1 q S.toNat 4 (fS lo hi su db) ++ ([])))))))) (Pu.r (Pu.l (k := 0) (hk := rfl) rfl)) dX1_isSame_128 ?_
    refine j_dup (pc := 129) C dX1_isSame_129 rfl ?_
    refine j_iconst (pc := 130) C dX1_isSame_130 ?_
    refine j_iconst (pc := 131) C dX1_isSame_131 ?_
    refine j_iast (pc := 132) C _ 0 (At.r (At.l (k := 0) rfl)) rfl (by omega) (by omega) (by omega) (ws' := wG h c1 c2 K Dm L lo hi su db S dy li so sp tu ah M ++ (gA c1 q1_ 5 (upZ (upZ (upZ (upZ (fun _ => 0) 0 ((-1))) 1 ((-1))) 2 ((-1))) 3 ((-1))) ++ (gO o la sa dy li so sp ++ (gR c2 la L.toNat r ++ (gR c2 sa S.toNat q ++ (gB c1 r L.toNat 2 (fL K Dm) ++ (gB c1 q S.toNat 4 (fS lo hi su db) ++ ([])))))))) (Pu.r (Pu.l (k := 0) (hk := rfl) rfl)) dX1_isSame_132 ?_
    refine j_dup (pc := 133) C dX1_isSame_133 rfl ?_
    refine j_iconst (pc := 134) C dX1_isSame_134 ?_
    refine j_iconst (pc := 135) C dX1_isSame_135 ?_
    refine j_iast (pc := 136) C _ 0 (At.r (At.l (k := 0) rfl)) rfl (by omega) (by omega) (by omega) (ws' := wG h c1 c2 K Dm L lo hi su db S dy li so sp tu ah M ++ (gA c1 q1_ 5 (upZ (upZ (upZ (upZ (upZ (fun _ => 0) 0 ((-1))) 1 ((-1))) 2 ((-1))) 3 ((-1))) 4 ((-1))) ++ (gO o la sa dy li so sp ++ (gR c2 la L.toNat r ++ (gR c2 sa S.toNat q ++ (gB c1 r L.toNat 2 (fL K Dm) ++ (gB c1 q S.toNat 4 (fS lo hi su db) ++ ([])))))))) (Pu.r (Pu.l (k := 0) (hk := rfl) rfl)) dX1_isSame_136 ?_
    refine j_astore (pc := 137) C (lv' := [(0, .ref o), (1, .ref (h 0)), (2, .int (zI L)), (3, .int (zI 0)), (4, .int (zI 0)), (5, .int (zI 0)), (6, .int (zI ((-1)))), (7, .int (zI ((-1)))), (8, .ref q1_)]) dX1_isSame_137 (by decide) [1, 2, 3, 4, 5, 6, 7, 8, 0] rfl ?_
    refine j_iload_n (pc := 139) C dX1_isSame_139 2 rfl ?_
    refine j_iconst (pc := 140) C dX1_isSame_140 ?_
    refine j_isub (pc := 141) C dX1_isSame_141 ?_
    refine j_istore (pc := 142) C (lv' := [(0, .ref o), (1, .ref (h 0)), (2, .int (zI L)), (3, .int (zI 0)), (4, .int (zI 0)), (5, .int (zI 0)), (6, .int (zI ((-1)))), (7, .int (zI ((-1)))), (8, .ref q1_), (9, .int (zI (L - 1)))]) dX1_isSame_142 (by decide) [1, 2, 3, 4, 5, 6, 7, 8, 9, 0] rfl ?_
    refine J.cast (ws' := wG h c1 c2 K Dm L lo hi su db S dy li so sp tu ah M ++ (gA c1 q1_ 5 ((upZ (upZ (upZ (upZ (upZ (fun _ => 0) 0 ((-1))) 1 ((-1))) 2 ((-1))) 3 ((-1))) 4 ((-1)))) ++ (gO o la sa dy li so sp ++ (gR c2 la L.toNat r ++ (gR c2 sa S.toNat q ++ (gB c1 r L.toNat 2 (fL K Dm) ++ (gB c1 q S.toNat 4 (fS lo hi su db) ++ ([])))))))) (lv' := [(0, .ref o), (1, .ref (h 0)), (2, .int (zI L)), (3, .int (zI (zc (pDm li Dm) (((L - 1)) + 1) L))), (4, .int (zI (zc (pDr (wz L lo hi su db S) li) (((L - 1)) + 1) L))), (5, .int (zI (zc (pWt (wz L lo hi su db S) li) (((L - 1)) + 1) L))), (6, .int (zI (((-1))))), (7, .int (zI (((-1))))), (8, .ref q1_), (9, .int (zI (((L - 1)))))]) ?_ (by rfl) (by rw [show L - 1 + 1 = L by omega, zc_0, zc_0, zc_0]) rfl
    refine J.widen (k := 1 + 2 * (L - 1 - ((L - 1))).toNat) (n := 5 + 26 * (L - 1 - ((L - 1))).toNat) (by omega) (by omega) ?_
    refine j_down (X := (Int → Int → Int) × (Int → Int) × Int × Int) (fun (i : Int) x9 => wG h c1 c2 K Dm L lo hi su db S dy li so sp tu ah x9.1 ++ (gA c1 q1_ 5 x9.2.1 ++ (gO o la sa dy li so sp ++ (gR c2 la L.toNat r ++ (gR c2 sa S.toNat q ++ (gB c1 r L.toNat 2 (fL K Dm) ++ (gB c1 q S.toNat 4 (fS lo hi su db) ++ ([])))))))) (fun (i : Int) x9 => [(0, .ref o), (1, .ref (h 0)), (2, .int (zI L)), (3, .int (zI (zc (pDm li Dm) (i + 1) L))), (4, .int (zI (zc (pDr (wz L lo hi su db S) li) (i + 1) L))), (5, .int (zI (zc (pWt (wz L lo hi su db S) li) (i + 1) L))), (6, .int (zI x9.2.2.1)), (7, .int (zI x9.2.2.2)), (8, .ref q1_), (9, .int (zI i))]) (fun (i : Int) x9 => (∀ k, 0 ≤ k → k < 5 → FI K k (i + 1) L (x9.2.1 k)) ∧ WI (fun j => (wz L lo hi su db S) j (j + 1)) (i + 1) L x9.2.2.1 x9.2.2.2) (fun (i : Int) => 1 + 2 * (L - 1 - i).toNat) (fun (i : Int) => 5 + 26 * (L - 1 - i).toNat) (L - 1) (-1) (by omega) ?_ ?_ ⟨M, upZ (upZ (upZ (upZ (upZ (fun _ => 0) 0 ((-1))) 1 ((-1))) 2 ((-1))) 3 ((-1))) 4 ((-1)), -1, -1⟩ ⟨by rw [show L - 1 + 1 = L by omega]; exact FI_m1 K L, by rw [show L - 1 + 1 = L by omega]; exact Or.inl ⟨rfl, rfl, rfl⟩⟩
    · intro i x9 h0_144 h1_144 hI_144 hk_144
      obtain ⟨N, F1, w9, m9⟩ := x9
      try dsimp only at hI_144 hk_144 ⊢
      obtain ⟨hFI, hWI⟩ := hI_144
      have h0i : 0 ≤ i := by omega
      have hb1 := hB i (i + 1) h0i (by omega) (by omega) (by omega)
      have hb2 := hB (i + 1) i (by omega) (by omega) h0i (by omega)
      have hfi := hf i h0i (by omega)
      have hki := hkK i h0i (by omega)
      have hgi := hG i h0i (by omega)
      have hwr := hWI.rng (by omega) hL hG
      refine j_iload (pc := 144) C dX1_isSame_144 9 rfl ?_
      refine j_if_lt (pc := 146) C 350 dX1_isSame_146 (by decide) ⟨by omega, by omega⟩ (fun c_146 => absurd c_146 (by omega)) (fun c_146 => ?_)
      refine j_aload_n (pc := 149) C dX1_isSame_149 0 rfl ?_
      refine j_iload (pc := 150) C dX1_isSame_150 9 rfl ?_
      refine j_iload (pc := 152) C dX1_isSame_152 9 rfl ?_
      refine J.perm (ws' := wS c1 c2 o la sa r q dy li so sp L K Dm S lo hi su db ++ (wG h c1 c2 K Dm L lo hi su db S dy li so sp tu ah N ++ (gA c1 q1_ 5 F1 ++ ([])))) (perm_of_count (fun cnt h1_ h0_ => by simp only [wU, wS, wGS, h1_, h0_] <;> omega)) ?_
      refine j_callEI (pc := 154) C E1.be (E1.he ho) (As := [.int (zI i), .int (zI i)]) (rest := []) (wr := wG h c1 c2 K Dm L lo hi su db S dy li so sp tu ah N ++ (gA c1 q1_ 5 F1 ++ ([]))) (kX1_least l D c1 c2 c3 o la sa r q dy li so sp L K Dm S lo hi su db ((fun _ _ => 0)) i i hok (by omega) (by omega) (by omega)) (cwV 2 C.2.2.2.2.1 gX1_isSame_X1_least rfl rfl rfl (by decide +kernel) ⟨Nat.le_of_ble_eq_true rfl, Nat.le_of_ble_eq_true rfl⟩) 0 (ci := 1) rfl rfl rfl dX1_isSame_154 rfl rfl (Nat.le_of_ble_eq_true rfl) ⟨(by show _ ≤ 60; omega), (by show _ ≤ 700; omega)⟩ (fun u2_ hu2_ => ?_)
      refine J.sub (ws' := wG h c1 c2 K Dm L lo hi su db S dy li so sp tu ah N ++ (gO o la sa dy li so sp ++ (gR c2 la L.toNat r ++ (gR c2 sa S.toNat q ++ (gB c1 r L.toNat 2 (fL K Dm) ++ (gB c1 q S.toNat 4 (fS lo hi su db) ++ (gA c1 q1_ 5 F1 ++ ([])))))))) (rest := []) (perm_of_count (fun cnt h1_ h0_ => by simp only [wU, wS, wGS, h1_, h0_] <;> omega)) ?_
      refine j_istore (pc := 157) C (lv' := [(0, .ref o), (1, .ref (h 0)), (2, .int (zI L)), (3, .int (zI (zc (pDm li Dm) (i + 1) L))), (4, .int (zI (zc (pDr (wz L lo hi su db S) li) (i + 1) L))), (5, .int (zI (zc (pWt (wz L lo hi su db S) li) (i + 1) L))), (6, .int (zI w9)), (7, .int (zI m9)), (8, .ref q1_), (9, .int (zI i)), (10, .int (zI (-((wz L lo hi su db S) (i + 1) i))))]) dX1_isSame_157 (by decide) [1, 2, 3, 4, 5, 6, 7, 8, 9, 10, 0] rfl ?_
      refine j_aload_n (pc := 159) C dX1_isSame_159 0 rfl ?_
      refine j_iload (pc := 160) C dX1_isSame_160 9 rfl ?_
      refine j_iload (pc := 162) C dX1_isSame_162 9 rfl ?_
      refine J.perm (ws' := wS c1 c2 o la sa r q dy li so sp L K Dm S lo hi su db ++ (wG h c1 c2 K Dm L lo hi su db S dy li so sp tu ah N ++ (gA c1 q1_ 5 F1 ++ ([])))) (perm_of_count (fun cnt h1_ h0_ => by simp only [wU, wS, wGS, h1_, h0_] <;> omega)) ?_
      refine j_callEI (pc := 164) C E1.be (E1.he ho) (As := [.int (zI i), .int (zI i)]) (rest := []) (wr := wG h c1 c2 K Dm L lo hi su db S dy li so sp tu ah N ++ (gA c1 q1_ 5 F1 ++ ([]))) (kX1_greatest l D c1 c2 c3 o la sa r q dy li so sp L K Dm S lo hi su db ((fun _ _ => 0)) i i hok (by omega) (by omega) (by omega)) (cwV 2 C.2.2.2.2.1 gX1_isSame_X1_greatest rfl rfl rfl (by decide +kernel) ⟨Nat.le_of_ble_eq_true rfl, Nat.le_of_ble_eq_true rfl⟩) 0 (ci := 1) rfl rfl rfl dX1_isSame_164 rfl rfl (Nat.le_of_ble_eq_true rfl) ⟨(by show _ ≤ 60; omega), (by show _ ≤ 700; omega)⟩ (fun u3_ hu3_ => ?_)
      refine J.sub (ws' := wG h c1 c2 K Dm L lo hi su db S dy li so sp tu ah N ++ (gO o la sa dy li so sp ++ (gR c2 la L.toNat r ++ (gR c2 sa S.toNat q ++ (gB c1 r L.toNat 2 (fL K Dm) ++ (gB c1 q S.toNat 4 (fS lo hi su db) ++ (gA c1 q1_ 5 F1 ++ ([])))))))) (rest := []) (perm_of_count (fun cnt h1_ h0_ => by simp only [wU, wS, wGS, h1_, h0_] <;> omega)) ?_
      refine j_istore (pc := 167) C (lv' := [(0, .ref o), (1, .ref (h 0)), (2, .int (zI L)), (3, .int (zI (zc (pDm li Dm) (i + 1) L))), (4, .int (zI (zc (pDr (wz L lo hi su db S) li) (i + 1) L))), (5, .int (zI (zc (pWt (wz L lo hi su db S) li) (i + 1) L))), (6, .int (zI w9)), (7, .int (zI m9)), (8, .ref q1_), (9, .int (zI i)), (10, .int (zI (-((wz L lo hi su db S) (i + 1) i)))), (11, .int (zI ((wz L lo hi su db S) i (i + 1))))]) dX1_isSame_167 (by decide) [1, 2, 3, 4, 5, 6, 7, 8, 9, 10, 11, 0] rfl ?_
      refine j_aload_n (pc := 169) C dX1_isSame_169 1 rfl ?_
      refine j_iload (pc := 170) C dX1_isSame_170 9 rfl ?_
      refine j_callPI (pc := 172) C (As := [.int (zI i)]) (rest := []) (wr := gO o la sa dy li so sp ++ (gR c2 la L.toNat r ++ (gR c2 sa S.toNat q ++ (gB c1 r L.toNat 2 (fL K Dm) ++ (gB c1 q S.toNat 4 (fS lo hi su db) ++ (gA c1 q1_ 5 F1 ++ ([]))))))) (kX0_kindOf l D h c1 c2 c3 K Dm L lo hi su db S dy li so sp tu ah N i (by omega) (by omega) (by omega)) (cwV 1 C.2.2.2.2.1 gX1_isSame_X0_kindOf rfl rfl rfl (by decide +kernel) ⟨Nat.le_of_ble_eq_true rfl, Nat.le_of_ble_eq_true rfl⟩) 0 (ci := 0) rfl rfl rfl dX1_isSame_172 rfl rfl (Nat.le_of_ble_eq_true rfl) ⟨(by show _ ≤ 60; omega), (by show _ ≤ 700; omega)⟩ ?_
      refine j_aload_n (pc := 175) C dX1_isSame_175 0 rfl ?_
      refine j_get (pc := 176) C (ref := "GrainSiloLaw$Sim") (T := TX1) (N := 6) hin _ (At.r (At.l (k := 0) rfl)) rfl 4 (by decide) (C.w 1 rfl) rfl rfl dX1_isSame_176 ?_
      refine j_iload (pc := 179) C dX1_isSame_179 9 rfl ?_
      refine j_aald (pc := 181) C _ 1 (g := r) (At.r (At.r (At.l (k := 0) rfl))) rfl (by omega) (by omega) (by omega) dX1_isSame_181 ?_
      refine j_iconst (pc := 182) C dX1_isSame_182 ?_
      refine j_iald (pc := 183) C _ 0 (At.r (At.r (At.r (At.r (At.l (gB_at (by omega) (by omega))))))) rfl (by omega) (by omega) (by omega) dX1_isSame_183 ?_
      refine J.cast (ws' := wG h c1 c2 K Dm L lo hi su db S dy li so sp tu ah N ++ (gO o la sa dy li so sp ++ (gR c2 la L.toNat r ++ (gR c2 sa S.toNat q ++ (gB c1 r L.toNat 2 (fL K Dm) ++ (gB c1 q S.toNat 4 (fS lo hi su db) ++ (gA c1 q1_ 5 F1 ++ ([])))))))) (lv' := [(0, .ref o), (1, .ref (h 0)), (2, .int (zI L)), (3, .int (zI (zc (pDm li Dm) (i + 1) L))), (4, .int (zI (zc (pDr (wz L lo hi su db S) li) (i + 1) L))), (5, .int (zI (zc (pWt (wz L lo hi su db S) li) (i + 1) L))), (6, .int (zI w9)), (7, .int (zI m9)), (8, .ref q1_), (9, .int (zI i)), (10, .int (zI (-((wz L lo hi su db S) (i + 1) i)))), (11, .int (zI ((wz L lo hi su db S) i (i + 1))))]) (st' := [.int (zI (K i)), .int (zI (K i))]) ?_ rfl rfl rfl
      refine j_icmp_ne (pc := 184) C 248 dX1_isSame_184 (by decide) ⟨by omega, by omega⟩ ⟨by omega, by omega⟩ (fun c_184 => absurd c_184 (by omega)) (fun c_184 => ?_)
      refine j_aload_n (pc := 187) C dX1_isSame_187 1 rfl ?_
      refine j_iload (pc := 188) C dX1_isSame_188 9 rfl ?_
      refine j_callPI (pc := 190) C (As := [.int (zI i)]) (rest := []) (wr := gO o la sa dy li so sp ++ (gR c2 la L.toNat r ++ (gR c2 sa S.toNat q ++ (gB c1 r L.toNat 2 (fL K Dm) ++ (gB c1 q S.toNat 4 (fS lo hi su db) ++ (gA c1 q1_ 5 F1 ++ ([]))))))) (kX0_dampnessOf l D h c1 c2 c3 K Dm L lo hi su db S dy li so sp tu ah N i (by omega) (by omega) (by omega)) (cwV 1 C.2.2.2.2.1 gX1_isSame_X0_dampnessOf rfl rfl rfl (by decide +kernel) ⟨Nat.le_of_ble_eq_true rfl, Nat.le_of_ble_eq_true rfl⟩) 0 (ci := 0) rfl rfl rfl dX1_isSame_190 rfl rfl (Nat.le_of_ble_eq_true rfl) ⟨(by show _ ≤ 60; omega), (by show _ ≤ 700; omega)⟩ ?_
      refine j_aload_n (pc := 193) C dX1_isSame_193 0 rfl ?_
      refine j_get (pc := 194) C (ref := "GrainSiloLaw$Sim") (T := TX1) (N := 6) hin _ (At.r (At.l (k := 0) rfl)) rfl 4 (by decide) (C.w 1 rfl) rfl rfl dX1_isSame_194 ?_
      refine j_iload (pc := 197) C dX1_isSame_197 9 rfl ?_
      refine j_aald (pc := 199) C _ 1 (g := r) (At.r (At.r (At.l (k := 0) rfl))) rfl (by omega) (by omega) (by omega) dX1_isSame_199 ?_
      refine j_iconst (pc := 200) C dX1_isSame_200 ?_
      refine j_iald (pc := 201) C _ 0 (At.r (At.r (At.r (At.r (At.l (gB_at (by omega) (by omega))))))) rfl (by omega) (by omega) (by omega) dX1_isSame_201 ?_
      refine J.cast (ws' := wG h c1 c2 K Dm L lo hi su db S dy li so sp tu ah N ++ (gO o la sa dy li so sp ++ (gR c2 la L.toNat r ++ (gR c2 sa S.toNat q ++ (gB c1 r L.toNat 2 (fL K Dm) ++ (gB c1 q S.toNat 4 (fS lo hi su db) ++ (gA c1 q1_ 5 F1 ++ ([])))))))) (lv' := [(0, .ref o), (1, .ref (h 0)), (2, .int (zI L)), (3, .int (zI (zc (pDm li Dm) (i + 1) L))), (4, .int (zI (zc (pDr (wz L lo hi su db S) li) (i + 1) L))), (5, .int (zI (zc (pWt (wz L lo hi su db S) li) (i + 1) L))), (6, .int (zI w9)), (7, .int (zI m9)), (8, .ref q1_), (9, .int (zI i)), (10, .int (zI (-((wz L lo hi su db S) (i + 1) i)))), (11, .int (zI ((wz L lo hi su db S) i (i + 1))))]) (st' := [.int (zI (Dm i)), .int (zI (Dm i))]) ?_ rfl rfl rfl
      refine j_icmp_ne (pc := 202) C 248 dX1_isSame_202 (by decide) ⟨by omega, by omega⟩ ⟨by omega, by omega⟩ (fun c_202 => absurd c_202 (by omega)) (fun c_202 => ?_)
      refine j_aload_n (pc := 205) C dX1_isSame_205 1 rfl ?_
      refine j_iload (pc := 206) C dX1_isSame_206 9 rfl ?_
      refine j_callPI (pc := 208) C (As := [.int (zI i)]) (rest := []) (wr := gO o la sa dy li so sp ++ (gR c2 la L.toNat r ++ (gR c2 sa S.toNat q ++ (gB c1 r L.toNat 2 (fL K Dm) ++ (gB c1 q S.toNat 4 (fS lo hi su db) ++ (gA c1 q1_ 5 F1 ++ ([]))))))) (kX0_leastOf l D h c1 c2 c3 K Dm L lo hi su db S dy li so sp tu ah N i hok (by omega) (by omega)) (cwV 1 C.2.2.2.2.1 gX1_isSame_X0_leastOf rfl rfl rfl (by decide +kernel) ⟨Nat.le_of_ble_eq_true rfl, Nat.le_of_ble_eq_true rfl⟩) 0 (ci := 0) rfl rfl rfl dX1_isSame_208 rfl rfl (Nat.le_of_ble_eq_true rfl) ⟨(by show _ ≤ 60; omega), (by show _ ≤ 700; omega)⟩ ?_
      refine j_iload (pc := 211) C dX1_isSame_211 10 rfl ?_
      have e213 : (wg L lo hi su db N S) (i + 1) i = (wz L lo hi su db S) (i + 1) i := wz_eq hok _ (i + 1) i (by omega) (by omega) h0i (by omega)
      refine j_icmp_ne (pc := 213) C 248 dX1_isSame_213 (by decide) ⟨by omega, by omega⟩ ⟨by omega, by omega⟩ (fun c_213 => absurd c_213 (by omega)) (fun c_213 => ?_)
      refine j_aload_n (pc := 216) C dX1_isSame_216 1 rfl ?_
      refine j_iload (pc := 217) C dX1_isSame_217 9 rfl ?_
      refine j_callPI (pc := 219) C (As := [.int (zI i)]) (rest := []) (wr := gO o la sa dy li so sp ++ (gR c2 la L.toNat r ++ (gR c2 sa S.toNat q ++ (gB c1 r L.toNat 2 (fL K Dm) ++ (gB c1 q S.toNat 4 (fS lo hi su db) ++ (gA c1 q1_ 5 F1 ++ ([]))))))) (kX0_greatestOf l D h c1 c2 c3 K Dm L lo hi su db S dy li so sp tu ah (wg L lo hi su db N S) i hok (by omega) (by omega)) (cwV 1 C.2.2.2.2.1 gX1_isSame_X0_greatestOf rfl rfl rfl (by decide +kernel) ⟨Nat.le_of_ble_eq_true rfl, Nat.le_of_ble_eq_true rfl⟩) 0 (ci := 0) rfl rfl rfl dX1_isSame_219 rfl rfl (Nat.le_of_ble_eq_true rfl) ⟨(by show _ ≤ 60; omega), (by show _ ≤ 700; omega)⟩ ?_
      refine j_iload (pc := 222) C dX1_isSame_222 11 rfl ?_
      have e224 : (wg L lo hi su db (wg L lo hi su db N S) S) i (i + 1) = (wz L lo hi su db S) i (i + 1) := wz_eq hok _ i (i + 1) h0i (by omega) (by omega) (by omega)
      refine j_icmp_ne (pc := 224) C 248 dX1_isSame_224 (by decide) ⟨by omega, by omega⟩ ⟨by omega, by omega⟩ (fun c_224 => absurd c_224 (by omega)) (fun c_224 => ?_)
      refine j_aload_n (pc := 227) C dX1_isSame_227 1 rfl ?_
      refine j_iload (pc := 228) C dX1_isSame_228 9 rfl ?_
      refine j_callPI (pc := 230) C (As := [.int (zI i)]) (rest := []) (wr := gO o la sa dy li so sp ++ (gR c2 la L.toNat r ++ (gR c2 sa S.toNat q ++ (gB c1 r L.toNat 2 (fL K Dm) ++ (gB c1 q S.toNat 4 (fS lo hi su db) ++ (gA c1 q1_ 5 F1 ++ ([]))))))) (kX0_isKnown l D h c1 c2 c3 K Dm L lo hi su db S dy li so sp tu ah (wg L lo hi su db (wg L lo hi su db N S) S) i hok (by omega) (by omega)) (cwV 1 C.2.2.2.2.1 gX1_isSame_X0_isKnown rfl rfl rfl (by decide +kernel) ⟨Nat.le_of_ble_eq_true rfl, Nat.le_of_ble_eq_true rfl⟩) 0 (ci := 0) rfl rfl rfl dX1_isSame_230 rfl rfl (Nat.le_of_ble_eq_true rfl) ⟨(by show _ ≤ 60; omega), (by show _ ≤ 700; omega)⟩ ?_
      refine j_iload (pc := 233) C dX1_isSame_233 10 rfl ?_
      refine j_iload (pc := 235) C dX1_isSame_235 11 rfl ?_
      refine j_icmp_ne (pc := 237) C 244 dX1_isSame_237 (by decide) ⟨by omega, by omega⟩ ⟨by omega, by omega⟩ (fun c_237 => ?_) (fun c_237 => ?_)
      · skip
        refine j_iconst (pc := 244) C dX1_isSame_244 ?_
        have e2450 : (wg L lo hi su db (wg L lo hi su db (wg L lo hi su db N S) S) S) (i + 1) i = (wz L lo hi su db S) (i + 1) i := wz_eq hok _ (i + 1) i (by omega) (by omega) h0i (by omega)
        have e2451 : (wg L lo hi su db (wg L lo hi su db (wg L lo hi su db N S) S) S) i (i + 1) = (wz L lo hi su db S) i (i + 1) := wz_eq hok _ i (i + 1) h0i (by omega) (by omega) (by omega)
        have e2452 : (if -((wg L lo hi su db (wg L lo hi su db (wg L lo hi su db N S) S) S) (i + 1) i) = (wg L lo hi su db (wg L lo hi su db (wg L lo hi su db N S) S) S) i (i + 1) then (1 : Int) else 0) = 0 := if_neg (by omega)
        refine j_icmp_eq (pc := 245) C 250 dX1_isSame_245 (by decide) ⟨by omega, by omega⟩ ⟨by omega, by omega⟩ (fun c_245 => ?_) (fun c_245 => absurd c_245 (by omega))
        refine j_iload_n (pc := 250) C dX1_isSame_250 3 rfl ?_
        refine J.join (X := Unit) (fun x9 => wG h c1 c2 K Dm L lo hi su db S dy li so sp tu ah (wg L lo hi su db (wg L lo hi su db (wg L lo hi su db N S) S) S) ++ (gO o la sa dy li so sp ++ (gR c2 la L.toNat r ++ (gR c2 sa S.toNat q ++ (gB c1 r L.toNat 2 (fL K Dm) ++ (gB c1 q S.toNat 4 (fS lo hi su db) ++ (gA c1 q1_ 5 F1 ++ ([])))))))) (fun x9 => [(0, .ref o), (1, .ref (h 0)), (2, .int (zI L)), (3, .int (zI (zc (pDm li Dm) (i + 1) L))), (4, .int (zI (zc (pDr (wz L lo hi su db S) li) (i + 1) L))), (5, .int (zI (zc (pWt (wz L lo hi su db S) li) (i + 1) L))), (6, .int (zI w9)), (7, .int (zI m9)), (8, .ref q1_), (9, .int (zI i)), (10, .int (zI (-((wz L lo hi su db S) (i + 1) i)))), (11, .int (zI ((wz L lo hi su db S) i (i + 1))))]) (fun x9 => [.int (zI (bI (pDm li Dm) i)), .int (zI (zc (pDm li Dm) (i + 1) L))]) (fun x9 => True) 272 (3 + 2 * (L - 1 - i).toNat) (31 + 26 * (L - 1 - i).toNat) ?_ ?_
        · intro x9 hJ_272
          try dsimp only at hJ_272 ⊢
          refine j_iadd (pc := 272) C dX1_isSame_272 ?_
          refine j_istore_n (pc := 273) C (lv' := [(0, .ref o), (1, .ref (h 0)), (2, .int (zI L)), (3, .int (zI ((zc (pDm li Dm) (i + 1) L) + (bI (pDm li Dm) i)))), (4, .int (zI (zc (pDr (wz L lo hi su db S) li) (i + 1) L))), (5, .int (zI (zc (pWt (wz L lo hi su db S) li) (i + 1) L))), (6, .int (zI w9)), (7, .int (zI m9)), (8, .ref q1_), (9, .int (zI i)), (10, .int (zI (-((wz L lo hi su db S) (i + 1) i)))), (11, .int (zI ((wz L lo hi su db S) i (i + 1))))]) dX1_isSame_273 (by decide) [1, 2, 3, 0, 4, 5, 6, 7, 8, 9, 10, 11] rfl ?_
          refine j_iload (pc := 274) C dX1_isSame_274 4 rfl ?_
          refine J.join (X := Unit) (fun x9 => wG h c1 c2 K Dm L lo hi su db S dy li so sp tu ah (wg L lo hi su db (wg L lo hi su db (wg L lo hi su db N S) S) S) ++ (gO o la sa dy li so sp ++ (gR c2 la L.toNat r ++ (gR c2 sa S.toNat q ++ (gB c1 r L.toNat 2 (fL K Dm) ++ (gB c1 q S.toNat 4 (fS lo hi su db) ++ (gA c1 q1_ 5 F1 ++ ([])))))))) (fun x9 => [(0, .ref o), (1, .ref (h 0)), (2, .int (zI L)), (3, .int (zI ((zc (pDm li Dm) (i + 1) L) + (bI (pDm li Dm) i)))), (4, .int (zI (zc (pDr (wz L lo hi su db S) li) (i + 1) L))), (5, .int (zI (zc (pWt (wz L lo hi su db S) li) (i + 1) L))), (6, .int (zI w9)), (7, .int (zI m9)), (8, .ref q1_), (9, .int (zI i)), (10, .int (zI (-((wz L lo hi su db S) (i + 1) i)))), (11, .int (zI ((wz L lo hi su db S) i (i + 1))))]) (fun x9 => [.int (zI (bI (pDr (wz L lo hi su db S) li) i)), .int (zI (zc (pDr (wz L lo hi su db S) li) (i + 1) L))]) (fun x9 => True) 290 (3 + 2 * (L - 1 - i).toNat) (31 + 26 * (L - 1 - i).toNat) ?_ ?_
          · intro x9 hJ_290
            try dsimp only at hJ_290 ⊢
            refine j_iadd (pc := 290) C dX1_isSame_290 ?_
            refine j_istore (pc := 291) C (lv' := [(0, .ref o), (1, .ref (h 0)), (2, .int (zI L)), (3, .int (zI ((zc (pDm li Dm) (i + 1) L) + (bI (pDm li Dm) i)))), (4, .int (zI ((zc (pDr (wz L lo hi su db S) li) (i + 1) L) + (bI (pDr (wz L lo hi su db S) li) i)))), (5, .int (zI (zc (pWt (wz L lo hi su db S) li) (i + 1) L))), (6, .int (zI w9)), (7, .int (zI m9)), (8, .ref q1_), (9, .int (zI i)), (10, .int (zI (-((wz L lo hi su db S) (i + 1) i)))), (11, .int (zI ((wz L lo hi su db S) i (i + 1))))]) dX1_isSame_291 (by decide) [1, 2, 3, 4, 0, 5, 6, 7, 8, 9, 10, 11] rfl ?_
            refine j_iload (pc := 293) C dX1_isSame_293 5 rfl ?_
            refine J.join (X := Unit) (fun x9 => wG h c1 c2 K Dm L lo hi su db S dy li so sp tu ah (wg L lo hi su db (wg L lo hi su db (wg L lo hi su db N S) S) S) ++ (gO o la sa dy li so sp ++ (gR c2 la L.toNat r ++ (gR c2 sa S.toNat q ++ (gB c1 r L.toNat 2 (fL K Dm) ++ (gB c1 q S.toNat 4 (fS lo hi su db) ++ (gA c1 q1_ 5 F1 ++ ([])))))))) (fun x9 => [(0, .ref o), (1, .ref (h 0)), (2, .int (zI L)), (3, .int (zI ((zc (pDm li Dm) (i + 1) L) + (bI (pDm li Dm) i)))), (4, .int (zI ((zc (pDr (wz L lo hi su db S) li) (i + 1) L) + (bI (pDr (wz L lo hi su db S) li) i)))), (5, .int (zI (zc (pWt (wz L lo hi su db S) li) (i + 1) L))), (6, .int (zI w9)), (7, .int (zI m9)), (8, .ref q1_), (9, .int (zI i)), (10, .int (zI (-((wz L lo hi su db S) (i + 1) i)))), (11, .int (zI ((wz L lo hi su db S) i (i + 1))))]) (fun x9 => [.int (zI (bI (pWt (wz L lo hi su db S) li) i)), .int (zI (zc (pWt (wz L lo hi su db S) li) (i + 1) L))]) (fun x9 => True) 309 (3 + 2 * (L - 1 - i).toNat) (31 + 26 * (L - 1 - i).toNat) ?_ ?_
            · intro x9 hJ_309
              try dsimp only at hJ_309 ⊢
              refine j_iadd (pc := 309) C dX1_isSame_309 ?_
              refine j_istore (pc := 310) C (lv' := [(0, .ref o), (1, .ref (h 0)), (2, .int (zI L)), (3, .int (zI ((zc (pDm li Dm) (i + 1) L) + (bI (pDm li Dm) i)))), (4, .int (zI ((zc (pDr (wz L lo hi su db S) li) (i + 1) L) + (bI (pDr (wz L lo hi su db S) li) i)))), (5, .int (zI ((zc (pWt (wz L lo hi su db S) li) (i + 1) L) + (bI (pWt (wz L lo hi su db S) li) i)))), (6, .int (zI w9)), (7, .int (zI m9)), (8, .ref q1_), (9, .int (zI i)), (10, .int (zI (-((wz L lo hi su db S) (i + 1) i)))), (11, .int (zI ((wz L lo hi su db S) i (i + 1))))]) dX1_isSame_310 (by decide) [1, 2, 3, 4, 5, 0, 6, 7, 8, 9, 10, 11] rfl ?_
              refine j_aload (pc := 312) C dX1_isSame_312 8 rfl ?_
              refine j_aload_n (pc := 314) C dX1_isSame_314 0 rfl ?_
              refine j_get (pc := 315) C (ref := "GrainSiloLaw$Sim") (T := TX1) (N := 6) hin _ (At.r (At.l (k := 0) rfl)) rfl 4 (by decide) (C.w 1 rfl) rfl rfl dX1_isSame_315 ?_
              refine j_iload (pc := 318) C dX1_isSame_318 9 rfl ?_
              refine j_aald (pc := 320) C _ 1 (g := r) (At.r (At.r (At.l (k := 0) rfl))) rfl (by omega) (by omega) (by omega) dX1_isSame_320 ?_
              refine j_iconst (pc := 321) C dX1_isSame_321 ?_
              refine j_iald (pc := 322) C _ 0 (At.r (At.r (At.r (At.r (At.l (gB_at (by omega) (by omega))))))) rfl (by omega) (by omega) (by omega) dX1_isSame_322 ?_
              refine J.cast (ws' := wG h c1 c2 K Dm L lo hi su db S dy li so sp tu ah (wg L lo hi su db (wg L lo hi su db (wg L lo hi su db N S) S) S) ++ (gO o la sa dy li so sp ++ (gR c2 la L.toNat r ++ (gR c2 sa S.toNat q ++ (gB c1 r L.toNat 2 (fL K Dm) ++ (gB c1 q S.toNat 4 (fS lo hi su db) ++ (gA c1 q1_ 5 F1 ++ ([])))))))) (lv' := [(0, .ref o), (1, .ref (h 0)), (2, .int (zI L)), (3, .int (zI ((zc (pDm li Dm) (i + 1) L) + (bI (pDm li Dm) i)))), (4, .int (zI ((zc (pDr (wz L lo hi su db S) li) (i + 1) L) + (bI (pDr (wz L lo hi su db S) li) i)))), (5, .int (zI ((zc (pWt (wz L lo hi su db S) li) (i + 1) L) + (bI (pWt (wz L lo hi su db S) li) i)))), (6, .int (zI w9)), (7, .int (zI m9)), (8, .ref q1_), (9, .int (zI i)), (10, .int (zI (-((wz L lo hi su db S) (i + 1) i)))), (11, .int (zI ((wz L lo hi su db S) i (i + 1))))]) (st' := [.int (zI (K i)), .ref q1_]) ?_ rfl rfl rfl
              refine j_iload (pc := 323) C dX1_isSame_323 9 rfl ?_
              refine j_iast (pc := 325) C _ 0 (At.r (At.r (At.r (At.r (At.r (At.r (At.l (k := 0) rfl))))))) rfl (by omega) (by omega) (by omega) (ws' := wG h c1 c2 K Dm L lo hi su db S dy li so sp tu ah (wg L lo hi su db (wg L lo hi su db (wg L lo hi su db N S) S) S) ++ (gO o la sa dy li so sp ++ (gR c2 la L.toNat r ++ (gR c2 sa S.toNat q ++ (gB c1 r L.toNat 2 (fL K Dm) ++ (gB c1 q S.toNat 4 (fS lo hi su db) ++ (gA c1 q1_ 5 (upZ F1 (K i) i) ++ ([])))))))) (Pu.r (Pu.r (Pu.r (Pu.r (Pu.r (Pu.r (Pu.l (k := 0) (hk := rfl) rfl))))))) dX1_isSame_325 ?_
              refine j_iload (pc := 326) C dX1_isSame_326 11 rfl ?_
              refine j_iload (pc := 328) C dX1_isSame_328 7 rfl ?_
              refine j_icmp_ge (pc := 330) C 336 dX1_isSame_330 (by decide) ⟨by omega, by omega⟩ ⟨by omega, by omega⟩ (fun c_330 => ?_) (fun c_330 => ?_)
              · skip
                refine j_iload (pc := 336) C dX1_isSame_336 9 rfl ?_
                refine j_istore (pc := 338) C (lv' := [(0, .ref o), (1, .ref (h 0)), (2, .int (zI L)), (3, .int (zI ((zc (pDm li Dm) (i + 1) L) + (bI (pDm li Dm) i)))), (4, .int (zI ((zc (pDr (wz L lo hi su db S) li) (i + 1) L) + (bI (pDr (wz L lo hi su db S) li) i)))), (5, .int (zI ((zc (pWt (wz L lo hi su db S) li) (i + 1) L) + (bI (pWt (wz L lo hi su db S) li) i)))), (6, .int (zI i)), (7, .int (zI m9)), (8, .ref q1_), (9, .int (zI i)), (10, .int (zI (-((wz L lo hi su db S) (i + 1) i)))), (11, .int (zI ((wz L lo hi su db S) i (i + 1))))]) dX1_isSame_338 (by decide) [1, 2, 3, 4, 5, 6, 0, 7, 8, 9, 10, 11] rfl ?_
                refine j_iload (pc := 340) C dX1_isSame_340 11 rfl ?_
                refine j_istore (pc := 342) C (lv' := [(0, .ref o), (1, .ref (h 0)), (2, .int (zI L)), (3, .int (zI ((zc (pDm li Dm) (i + 1) L) + (bI (pDm li Dm) i)))), (4, .int (zI ((zc (pDr (wz L lo hi su db S) li) (i + 1) L) + (bI (pDr (wz L lo hi su db S) li) i)))), (5, .int (zI ((zc (pWt (wz L lo hi su db S) li) (i + 1) L) + (bI (pWt (wz L lo hi su db S) li) i)))), (6, .int (zI i)), (7, .int (zI ((wz L lo hi su db S) i (i + 1)))), (8, .ref q1_), (9, .int (zI i)), (10, .int (zI (-((wz L lo hi su db S) (i + 1) i)))), (11, .int (zI ((wz L lo hi su db S) i (i + 1))))]) dX1_isSame_342 (by decide) [1, 2, 3, 4, 5, 6, 7, 0, 8, 9, 10, 11] rfl ?_
                refine j_iinc (pc := 344) C (x := i) (lv' := [(0, .ref o), (1, .ref (h 0)), (2, .int (zI L)), (3, .int (zI ((zc (pDm li Dm) (i + 1) L) + (bI (pDm li Dm) i)))), (4, .int (zI ((zc (pDr (wz L lo hi su db S) li) (i + 1) L) + (bI (pDr (wz L lo hi su db S) li) i)))), (5, .int (zI ((zc (pWt (wz L lo hi su db S) li) (i + 1) L) + (bI (pWt (wz L lo hi su db S) li) i)))), (6, .int (zI i)), (7, .int (zI ((wz L lo hi su db S) i (i + 1)))), (8, .ref q1_), (9, .int (zI (i + (-1)))), (10, .int (zI (-((wz L lo hi su db S) (i + 1) i)))), (11, .int (zI ((wz L lo hi su db S) i (i + 1))))]) dX1_isSame_344 9 rfl (by decide) [1, 2, 3, 4, 5, 6, 7, 8, 9, 0, 10, 11] rfl ?_
                refine j_goto (pc := 347) C 144 dX1_isSame_347 (by decide) ?_
                refine J.sub (ws' := wG h c1 c2 K Dm L lo hi su db S dy li so sp tu ah (wg L lo hi su db (wg L lo hi su db (wg L lo hi su db N S) S) S) ++ (gA c1 q1_ 5 (upZ F1 (K i) i) ++ (gO o la sa dy li so sp ++ (gR c2 la L.toNat r ++ (gR c2 sa S.toNat q ++ (gB c1 r L.toNat 2 (fL K Dm) ++ (gB c1 q S.toNat 4 (fS lo hi su db) ++ ([])))))))) (rest := []) (perm_of_count (fun cnt h1_ h0_ => by simp only [wU, wS, wGS, h1_, h0_] <;> omega)) ?_
                refine J.pick (lv' := [(0, .ref o), (1, .ref (h 0)), (2, .int (zI L)), (3, .int (zI ((zc (pDm li Dm) (i + 1) L) + (bI (pDm li Dm) i)))), (4, .int (zI ((zc (pDr (wz L lo hi su db S) li) (i + 1) L) + (bI (pDr (wz L lo hi su db S) li) i)))), (5, .int (zI ((zc (pWt (wz L lo hi su db S) li) (i + 1) L) + (bI (pWt (wz L lo hi su db S) li) i)))), (6, .int (zI i)), (7, .int (zI ((wz L lo hi su db S) i (i + 1)))), (8, .ref q1_), (9, .int (zI (i + (-1))))]) [0, 1, 2, 3, 4, 5, 6, 7, 8, 9] rfl ?_
                exact J.widen (by omega) (by omega) (J.cast (hk_144 ⟨(wg L lo hi su db (wg L lo hi su db (wg L lo hi su db N S) S) S), upZ F1 (K i) i, i, (wz L lo hi su db S) i (i + 1)⟩ (by rw [show i - 1 + 1 = i by omega]; exact ⟨FI_dn hFI (by omega), hWI.take (by omega) c_330 (fun j a b => (hG j a b).1) h0i⟩)) (by rfl) (by rw [show i + (-1) = i - 1 by omega, show i - 1 + 1 = i by omega, zc_dn (pDm li Dm) i L (by omega), zc_dn (pDr (wz L lo hi su db S) li) i L (by omega), zc_dn (pWt (wz L lo hi su db S) li) i L (by omega)]) rfl)
              · skip
                refine j_goto (pc := 333) C 344 dX1_isSame_333 (by decide) ?_
                refine j_iinc (pc := 344) C (x := i) (lv' := [(0, .ref o), (1, .ref (h 0)), (2, .int (zI L)), (3, .int (zI ((zc (pDm li Dm) (i + 1) L) + (bI (pDm li Dm) i)))), (4, .int (zI ((zc (pDr (wz L lo hi su db S) li) (i + 1) L) + (bI (pDr (wz L lo hi su db S) li) i)))), (5, .int (zI ((zc (pWt (wz L lo hi su db S) li) (i + 1) L) + (bI (pWt (wz L lo hi su db S) li) i)))), (6, .int (zI w9)), (7, .int (zI m9)), (8, .ref q1_), (9, .int (zI (i + (-1)))), (10, .int (zI (-((wz L lo hi su db S) (i + 1) i)))), (11, .int (zI ((wz L lo hi su db S) i (i + 1))))]) dX1_isSame_344 9 rfl (by decide) [1, 2, 3, 4, 5, 6, 7, 8, 9, 0, 10, 11] rfl ?_
                refine j_goto (pc := 347) C 144 dX1_isSame_347 (by decide) ?_
                refine J.sub (ws' := wG h c1 c2 K Dm L lo hi su db S dy li so sp tu ah (wg L lo hi su db (wg L lo hi su db (wg L lo hi su db N S) S) S) ++ (gA c1 q1_ 5 (upZ F1 (K i) i) ++ (gO o la sa dy li so sp ++ (gR c2 la L.toNat r ++ (gR c2 sa S.toNat q ++ (gB c1 r L.toNat 2 (fL K Dm) ++ (gB c1 q S.toNat 4 (fS lo hi su db) ++ ([])))))))) (rest := []) (perm_of_count (fun cnt h1_ h0_ => by simp only [wU, wS, wGS, h1_, h0_] <;> omega)) ?_
                refine J.pick (lv' := [(0, .ref o), (1, .ref (h 0)), (2, .int (zI L)), (3, .int (zI ((zc (pDm li Dm) (i + 1) L) + (bI (pDm li Dm) i)))), (4, .int (zI ((zc (pDr (wz L lo hi su db S) li) (i + 1) L) + (bI (pDr (wz L lo hi su db S) li) i)))), (5, .int (zI ((zc (pWt (wz L lo hi su db S) li) (i + 1) L) + (bI (pWt (wz L lo hi su db S) li) i)))), (6, .int (zI w9)), (7, .int (zI m9)), (8, .ref q1_), (9, .int (zI (i + (-1))))]) [0, 1, 2, 3, 4, 5, 6, 7, 8, 9] rfl ?_
                exact J.widen (by omega) (by omega) (J.cast (hk_144 ⟨(wg L lo hi su db (wg L lo hi su db (wg L lo hi su db N S) S) S), upZ F1 (K i) i, w9, m9⟩ (by rw [show i - 1 + 1 = i by omega]; exact ⟨FI_dn hFI (by omega), hWI.skip c_330 (hG i h0i (by omega)).1⟩)) (by rfl) (by rw [show i + (-1) = i - 1 by omega, show i - 1 + 1 = i by omega, zc_dn (pDm li Dm) i L (by omega), zc_dn (pDr (wz L lo hi su db S) li) i L (by omega), zc_dn (pWt (wz L lo hi su db S) li) i L (by omega)]) rfl)
            · intro kj_309
              try dsimp only at kj_309 ⊢
              refine j_iload (pc := 295) C dX1_isSame_295 10 rfl ?_
              refine j_aload_n (pc := 297) C dX1_isSame_297 0 rfl ?_
              refine j_get (pc := 298) C (ref := "GrainSiloLaw$Sim") (T := TX1) (N := 6) hin _ (At.r (At.l (k := 0) rfl)) rfl 1 (by decide) (C.w 4 rfl) rfl rfl dX1_isSame_298 ?_
              refine j_icmp_le (pc := 301) C 308 dX1_isSame_301 (by decide) ⟨by omega, by omega⟩ ⟨by omega, by omega⟩ (fun c_301 => ?_) (fun c_301 => ?_)
              · skip
                refine j_iconst (pc := 308) C dX1_isSame_308 ?_
                exact J.widen (by omega) (by omega) (J.cast (kj_309 () trivial) (by rfl) (by rfl) (by rw [bI_0 (p := pWt (wz L lo hi su db S) li) (i := i) (decide_eq_false (by omega))]))
              · skip
                refine j_iconst (pc := 304) C dX1_isSame_304 ?_
                refine j_goto (pc := 305) C 309 dX1_isSame_305 (by decide) ?_
                exact J.widen (by omega) (by omega) (J.cast (kj_309 () trivial) (by rfl) (by rfl) (by rw [bI_1 (p := pWt (wz L lo hi su db S) li) (i := i) (decide_eq_true (by omega))]))
          · intro kj_290
            try dsimp only at kj_290 ⊢
            refine j_iload (pc := 276) C dX1_isSame_276 11 rfl ?_
            refine j_aload_n (pc := 278) C dX1_isSame_278 0 rfl ?_
            refine j_get (pc := 279) C (ref := "GrainSiloLaw$Sim") (T := TX1) (N := 6) hin _ (At.r (At.l (k := 0) rfl)) rfl 1 (by decide) (C.w 4 rfl) rfl rfl dX1_isSame_279 ?_
            refine j_icmp_gt (pc := 282) C 289 dX1_isSame_282 (by decide) ⟨by omega, by omega⟩ ⟨by omega, by omega⟩ (fun c_282 => ?_) (fun c_282 => ?_)
            · skip
              refine j_iconst (pc := 289) C dX1_isSame_289 ?_
              exact J.widen (by omega) (by omega) (J.cast (kj_290 () trivial) (by rfl) (by rfl) (by rw [bI_0 (p := pDr (wz L lo hi su db S) li) (i := i) (decide_eq_false (by omega))]))
            · skip
              refine j_iconst (pc := 285) C dX1_isSame_285 ?_
              refine j_goto (pc := 286) C 290 dX1_isSame_286 (by decide) ?_
              exact J.widen (by omega) (by omega) (J.cast (kj_290 () trivial) (by rfl) (by rfl) (by rw [bI_1 (p := pDr (wz L lo hi su db S) li) (i := i) (decide_eq_true (by omega))]))
        · intro kj_272
          try dsimp only at kj_272 ⊢
          refine j_aload_n (pc := 251) C dX1_isSame_251 0 rfl ?_
          refine j_get (pc := 252) C (ref := "GrainSiloLaw$Sim") (T := TX1) (N := 6) hin _ (At.r (At.l (k := 0) rfl)) rfl 4 (by decide) (C.w 1 rfl) rfl rfl dX1_isSame_252 ?_
          refine j_iload (pc := 255) C dX1_isSame_255 9 rfl ?_
          refine j_aald (pc := 257) C _ 1 (g := r) (At.r (At.r (At.l (k := 0) rfl))) rfl (by omega) (by omega) (by omega) dX1_isSame_257 ?_
          refine j_iconst (pc := 258) C dX1_isSame_258 ?_
          refine j_iald (pc := 259) C _ 0 (At.r (At.r (At.r (At.r (At.l (gB_at (by omega) (by omega))))))) rfl (by omega) (by omega) (by omega) dX1_isSame_259 ?_
          refine J.cast (ws' := wG h c1 c2 K Dm L lo hi su db S dy li so sp tu ah (wg L lo hi su db (wg L lo hi su db (wg L lo hi su db N S) S) S) ++ (gO o la sa dy li so sp ++ (gR c2 la L.toNat r ++ (gR c2 sa S.toNat q ++ (gB c1 r L.toNat 2 (fL K Dm) ++ (gB c1 q S.toNat 4 (fS lo hi su db) ++ (gA c1 q1_ 5 F1 ++ ([])))))))) (lv' := [(0, .ref o), (1, .ref (h 0)), (2, .int (zI L)), (3, .int (zI (zc (pDm li Dm) (i + 1) L))), (4, .int (zI (zc (pDr (wz L lo hi su db S) li) (i + 1) L))), (5, .int (zI (zc (pWt (wz L lo hi su db S) li) (i + 1) L))), (6, .int (zI w9)), (7, .int (zI m9)), (8, .ref q1_), (9, .int (zI i)), (10, .int (zI (-((wz L lo hi su db S) (i + 1) i)))), (11, .int (zI ((wz L lo hi su db S) i (i + 1))))]) (st' := [.int (zI (Dm i)), .int (zI (zc (pDm li Dm) (i + 1) L))]) ?_ rfl rfl rfl
          refine j_aload_n (pc := 260) C dX1_isSame_260 0 rfl ?_
          refine j_get (pc := 261) C (ref := "GrainSiloLaw$Sim") (T := TX1) (N := 6) hin _ (At.r (At.l (k := 0) rfl)) rfl 1 (by decide) (C.w 4 rfl) rfl rfl dX1_isSame_261 ?_
          refine j_icmp_le (pc := 264) C 271 dX1_isSame_264 (by decide) ⟨by omega, by omega⟩ ⟨by omega, by omega⟩ (fun c_264 => ?_) (fun c_264 => ?_)
          · skip
            refine j_iconst (pc := 271) C dX1_isSame_271 ?_
            exact J.widen (by omega) (by omega) (J.cast (kj_272 () trivial) (by rfl) (by rfl) (by rw [bI_0 (p := pDm li Dm) (i := i) (decide_eq_false (by omega))]))
          · skip
            refine j_iconst (pc := 267) C dX1_isSame_267 ?_
            refine j_goto (pc := 268) C 272 dX1_isSame_268 (by decide) ?_
            exact J.widen (by omega) (by omega) (J.cast (kj_272 () trivial) (by rfl) (by rfl) (by rw [bI_1 (p := pDm li Dm) (i := i) (decide_eq_true (by omega))]))
      · skip
        refine j_iconst (pc := 240) C dX1_isSame_240 ?_
        refine j_goto (pc := 241) C 245 dX1_isSame_241 (by decide) ?_
        have e2450 : (wg L lo hi su db (wg L lo hi su db (wg L lo hi su db N S) S) S) (i + 1) i = (wz L lo hi su db S) (i + 1) i := wz_eq hok _ (i + 1) i (by omega) (by omega) h0i (by omega)
        have e2451 : (wg L lo hi su db (wg L lo hi su db (wg L lo hi su db N S) S) S) i (i + 1) = (wz L lo hi su db S) i (i + 1) := wz_eq hok _ i (i + 1) h0i (by omega) (by omega) (by omega)
        have e2452 : (if -((wg L lo hi su db (wg L lo hi su db (wg L lo hi su db N S) S) S) (i + 1) i) = (wg L lo hi su db (wg L lo hi su db (wg L lo hi su db N S) S) S) i (i + 1) then (1 : Int) else 0) = 1 := if_pos (by omega)
        refine j_icmp_eq (pc := 245) C 250 dX1_isSame_245 (by decide) ⟨by omega, by omega⟩ ⟨by omega, by omega⟩ (fun c_245 => ?_) (fun c_245 => absurd c_245 (by omega))
        refine j_iload_n (pc := 250) C dX1_isSame_250 3 rfl ?_
        refine J.join (X := Unit) (fun x9 => wG h c1 c2 K Dm L lo hi su db S dy li so sp tu ah (wg L lo hi su db (wg L lo hi su db (wg L lo hi su db N S) S) S) ++ (gO o la sa dy li so sp ++ (gR c2 la L.toNat r ++ (gR c2 sa S.toNat q ++ (gB c1 r L.toNat 2 (fL K Dm) ++ (gB c1 q S.toNat 4 (fS lo hi su db) ++ (gA c1 q1_ 5 F1 ++ ([])))))))) (fun x9 => [(0, .ref o), (1, .ref (h 0)), (2, .int (zI L)), (3, .int (zI (zc (pDm li Dm) (i + 1) L))), (4, .int (zI (zc (pDr (wz L lo hi su db S) li) (i + 1) L))), (5, .int (zI (zc (pWt (wz L lo hi su db S) li) (i + 1) L))), (6, .int (zI w9)), (7, .int (zI m9)), (8, .ref q1_), (9, .int (zI i)), (10, .int (zI (-((wz L lo hi su db S) (i + 1) i)))), (11, .int (zI ((wz L lo hi su db S) i (i + 1))))]) (fun x9 => [.int (zI (bI (pDm li Dm) i)), .int (zI (zc (pDm li Dm) (i + 1) L))]) (fun x9 => True) 272 (3 + 2 * (L - 1 - i).toNat) (31 + 26 * (L - 1 - i).toNat) ?_ ?_
        · intro x9 hJ_272
          try dsimp only at hJ_272 ⊢
          refine j_iadd (pc := 272) C dX1_isSame_272 ?_
          refine j_istore_n (pc := 273) C (lv' := [(0, .ref o), (1, .ref (h 0)), (2, .int (zI L)), (3, .int (zI ((zc (pDm li Dm) (i + 1) L) + (bI (pDm li Dm) i)))), (4, .int (zI (zc (pDr (wz L lo hi su db S) li) (i + 1) L))), (5, .int (zI (zc (pWt (wz L lo hi su db S) li) (i + 1) L))), (6, .int (zI w9)), (7, .int (zI m9)), (8, .ref q1_), (9, .int (zI i)), (10, .int (zI (-((wz L lo hi su db S) (i + 1) i)))), (11, .int (zI ((wz L lo hi su db S) i (i + 1))))]) dX1_isSame_273 (by decide) [1, 2, 3, 0, 4, 5, 6, 7, 8, 9, 10, 11] rfl ?_
          refine j_iload (pc := 274) C dX1_isSame_274 4 rfl ?_
          refine J.join (X := Unit) (fun x9 => wG h c1 c2 K Dm L lo hi su db S dy li so sp tu ah (wg L lo hi su db (wg L lo hi su db (wg L lo hi su db N S) S) S) ++ (gO o la sa dy li so sp ++ (gR c2 la L.toNat r ++ (gR c2 sa S.toNat q ++ (gB c1 r L.toNat 2 (fL K Dm) ++ (gB c1 q S.toNat 4 (fS lo hi su db) ++ (gA c1 q1_ 5 F1 ++ ([])))))))) (fun x9 => [(0, .ref o), (1, .ref (h 0)), (2, .int (zI L)), (3, .int (zI ((zc (pDm li Dm) (i + 1) L) + (bI (pDm li Dm) i)))), (4, .int (zI (zc (pDr (wz L lo hi su db S) li) (i + 1) L))), (5, .int (zI (zc (pWt (wz L lo hi su db S) li) (i + 1) L))), (6, .int (zI w9)), (7, .int (zI m9)), (8, .ref q1_), (9, .int (zI i)), (10, .int (zI (-((wz L lo hi su db S) (i + 1) i)))), (11, .int (zI ((wz L lo hi su db S) i (i + 1))))]) (fun x9 => [.int (zI (bI (pDr (wz L lo hi su db S) li) i)), .int (zI (zc (pDr (wz L lo hi su db S) li) (i + 1) L))]) (fun x9 => True) 290 (3 + 2 * (L - 1 - i).toNat) (31 + 26 * (L - 1 - i).toNat) ?_ ?_
          · intro x9 hJ_290
            try dsimp only at hJ_290 ⊢
            refine j_iadd (pc := 290) C dX1_isSame_290 ?_
            refine j_istore (pc := 291) C (lv' := [(0, .ref o), (1, .ref (h 0)), (2, .int (zI L)), (3, .int (zI ((zc (pDm li Dm) (i + 1) L) + (bI (pDm li Dm) i)))), (4, .int (zI ((zc (pDr (wz L lo hi su db S) li) (i + 1) L) + (bI (pDr (wz L lo hi su db S) li) i)))), (5, .int (zI (zc (pWt (wz L lo hi su db S) li) (i + 1) L))), (6, .int (zI w9)), (7, .int (zI m9)), (8, .ref q1_), (9, .int (zI i)), (10, .int (zI (-((wz L lo hi su db S) (i + 1) i)))), (11, .int (zI ((wz L lo hi su db S) i (i + 1))))]) dX1_isSame_291 (by decide) [1, 2, 3, 4, 0, 5, 6, 7, 8, 9, 10, 11] rfl ?_
            refine j_iload (pc := 293) C dX1_isSame_293 5 rfl ?_
            refine J.join (X := Unit) (fun x9 => wG h c1 c2 K Dm L lo hi su db S dy li so sp tu ah (wg L lo hi su db (wg L lo hi su db (wg L lo hi su db N S) S) S) ++ (gO o la sa dy li so sp ++ (gR c2 la L.toNat r ++ (gR c2 sa S.toNat q ++ (gB c1 r L.toNat 2 (fL K Dm) ++ (gB c1 q S.toNat 4 (fS lo hi su db) ++ (gA c1 q1_ 5 F1 ++ ([])))))))) (fun x9 => [(0, .ref o), (1, .ref (h 0)), (2, .int (zI L)), (3, .int (zI ((zc (pDm li Dm) (i + 1) L) + (bI (pDm li Dm) i)))), (4, .int (zI ((zc (pDr (wz L lo hi su db S) li) (i + 1) L) + (bI (pDr (wz L lo hi su db S) li) i)))), (5, .int (zI (zc (pWt (wz L lo hi su db S) li) (i + 1) L))), (6, .int (zI w9)), (7, .int (zI m9)), (8, .ref q1_), (9, .int (zI i)), (10, .int (zI (-((wz L lo hi su db S) (i + 1) i)))), (11, .int (zI ((wz L lo hi su db S) i (i + 1))))]) (fun x9 => [.int (zI (bI (pWt (wz L lo hi su db S) li) i)), .int (zI (zc (pWt (wz L lo hi su db S) li) (i + 1) L))]) (fun x9 => True) 309 (3 + 2 * (L - 1 - i).toNat) (31 + 26 * (L - 1 - i).toNat) ?_ ?_
            · intro x9 hJ_309
              try dsimp only at hJ_309 ⊢
              refine j_iadd (pc := 309) C dX1_isSame_309 ?_
              refine j_istore (pc := 310) C (lv' := [(0, .ref o), (1, .ref (h 0)), (2, .int (zI L)), (3, .int (zI ((zc (pDm li Dm) (i + 1) L) + (bI (pDm li Dm) i)))), (4, .int (zI ((zc (pDr (wz L lo hi su db S) li) (i + 1) L) + (bI (pDr (wz L lo hi su db S) li) i)))), (5, .int (zI ((zc (pWt (wz L lo hi su db S) li) (i + 1) L) + (bI (pWt (wz L lo hi su db S) li) i)))), (6, .int (zI w9)), (7, .int (zI m9)), (8, .ref q1_), (9, .int (zI i)), (10, .int (zI (-((wz L lo hi su db S) (i + 1) i)))), (11, .int (zI ((wz L lo hi su db S) i (i + 1))))]) dX1_isSame_310 (by decide) [1, 2, 3, 4, 5, 0, 6, 7, 8, 9, 10, 11] rfl ?_
              refine j_aload (pc := 312) C dX1_isSame_312 8 rfl ?_
              refine j_aload_n (pc := 314) C dX1_isSame_314 0 rfl ?_
              refine j_get (pc := 315) C (ref := "GrainSiloLaw$Sim") (T := TX1) (N := 6) hin _ (At.r (At.l (k := 0) rfl)) rfl 4 (by decide) (C.w 1 rfl) rfl rfl dX1_isSame_315 ?_
              refine j_iload (pc := 318) C dX1_isSame_318 9 rfl ?_
              refine j_aald (pc := 320) C _ 1 (g := r) (At.r (At.r (At.l (k := 0) rfl))) rfl (by omega) (by omega) (by omega) dX1_isSame_320 ?_
              refine j_iconst (pc := 321) C dX1_isSame_321 ?_
              refine j_iald (pc := 322) C _ 0 (At.r (At.r (At.r (At.r (At.l (gB_at (by omega) (by omega))))))) rfl (by omega) (by omega) (by omega) dX1_isSame_322 ?_
              refine J.cast (ws' := wG h c1 c2 K Dm L lo hi su db S dy li so sp tu ah (wg L lo hi su db (wg L lo hi su db (wg L lo hi su db N S) S) S) ++ (gO o la sa dy li so sp ++ (gR c2 la L.toNat r ++ (gR c2 sa S.toNat q ++ (gB c1 r L.toNat 2 (fL K Dm) ++ (gB c1 q S.toNat 4 (fS lo hi su db) ++ (gA c1 q1_ 5 F1 ++ ([])))))))) (lv' := [(0, .ref o), (1, .ref (h 0)), (2, .int (zI L)), (3, .int (zI ((zc (pDm li Dm) (i + 1) L) + (bI (pDm li Dm) i)))), (4, .int (zI ((zc (pDr (wz L lo hi su db S) li) (i + 1) L) + (bI (pDr (wz L lo hi su db S) li) i)))), (5, .int (zI ((zc (pWt (wz L lo hi su db S) li) (i + 1) L) + (bI (pWt (wz L lo hi su db S) li) i)))), (6, .int (zI w9)), (7, .int (zI m9)), (8, .ref q1_), (9, .int (zI i)), (10, .int (zI (-((wz L lo hi su db S) (i + 1) i)))), (11, .int (zI ((wz L lo hi su db S) i (i + 1))))]) (st' := [.int (zI (K i)), .ref q1_]) ?_ rfl rfl rfl
              refine j_iload (pc := 323) C dX1_isSame_323 9 rfl ?_
              refine j_iast (pc := 325) C _ 0 (At.r (At.r (At.r (At.r (At.r (At.r (At.l (k := 0) rfl))))))) rfl (by omega) (by omega) (by omega) (ws' := wG h c1 c2 K Dm L lo hi su db S dy li so sp tu ah (wg L lo hi su db (wg L lo hi su db (wg L lo hi su db N S) S) S) ++ (gO o la sa dy li so sp ++ (gR c2 la L.toNat r ++ (gR c2 sa S.toNat q ++ (gB c1 r L.toNat 2 (fL K Dm) ++ (gB c1 q S.toNat 4 (fS lo hi su db) ++ (gA c1 q1_ 5 (upZ F1 (K i) i) ++ ([])))))))) (Pu.r (Pu.r (Pu.r (Pu.r (Pu.r (Pu.r (Pu.l (k := 0) (hk := rfl) rfl))))))) dX1_isSame_325 ?_
              refine j_iload (pc := 326) C dX1_isSame_326 11 rfl ?_
              refine j_iload (pc := 328) C dX1_isSame_328 7 rfl ?_
              refine j_icmp_ge (pc := 330) C 336 dX1_isSame_330 (by decide) ⟨by omega, by omega⟩ ⟨by omega, by omega⟩ (fun c_330 => ?_) (fun c_330 => ?_)
              · skip
                refine j_iload (pc := 336) C dX1_isSame_336 9 rfl ?_
                refine j_istore (pc := 338) C (lv' := [(0, .ref o), (1, .ref (h 0)), (2, .int (zI L)), (3, .int (zI ((zc (pDm li Dm) (i + 1) L) + (bI (pDm li Dm) i)))), (4, .int (zI ((zc (pDr (wz L lo hi su db S) li) (i + 1) L) + (bI (pDr (wz L lo hi su db S) li) i)))), (5, .int (zI ((zc (pWt (wz L lo hi su db S) li) (i + 1) L) + (bI (pWt (wz L lo hi su db S) li) i)))), (6, .int (zI i)), (7, .int (zI m9)), (8, .ref q1_), (9, .int (zI i)), (10, .int (zI (-((wz L lo hi su db S) (i + 1) i)))), (11, .int (zI ((wz L lo hi su db S) i (i + 1))))]) dX1_isSame_338 (by decide) [1, 2, 3, 4, 5, 6, 0, 7, 8, 9, 10, 11] rfl ?_
                refine j_iload (pc := 340) C dX1_isSame_340 11 rfl ?_
                refine j_istore (pc := 342) C (lv' := [(0, .ref o), (1, .ref (h 0)), (2, .int (zI L)), (3, .int (zI ((zc (pDm li Dm) (i + 1) L) + (bI (pDm li Dm) i)))), (4, .int (zI ((zc (pDr (wz L lo hi su db S) li) (i + 1) L) + (bI (pDr (wz L lo hi su db S) li) i)))), (5, .int (zI ((zc (pWt (wz L lo hi su db S) li) (i + 1) L) + (bI (pWt (wz L lo hi su db S) li) i)))), (6, .int (zI i)), (7, .int (zI ((wz L lo hi su db S) i (i + 1)))), (8, .ref q1_), (9, .int (zI i)), (10, .int (zI (-((wz L lo hi su db S) (i + 1) i)))), (11, .int (zI ((wz L lo hi su db S) i (i + 1))))]) dX1_isSame_342 (by decide) [1, 2, 3, 4, 5, 6, 7, 0, 8, 9, 10, 11] rfl ?_
                refine j_iinc (pc := 344) C (x := i) (lv' := [(0, .ref o), (1, .ref (h 0)), (2, .int (zI L)), (3, .int (zI ((zc (pDm li Dm) (i + 1) L) + (bI (pDm li Dm) i)))), (4, .int (zI ((zc (pDr (wz L lo hi su db S) li) (i + 1) L) + (bI (pDr (wz L lo hi su db S) li) i)))), (5, .int (zI ((zc (pWt (wz L lo hi su db S) li) (i + 1) L) + (bI (pWt (wz L lo hi su db S) li) i)))), (6, .int (zI i)), (7, .int (zI ((wz L lo hi su db S) i (i + 1)))), (8, .ref q1_), (9, .int (zI (i + (-1)))), (10, .int (zI (-((wz L lo hi su db S) (i + 1) i)))), (11, .int (zI ((wz L lo hi su db S) i (i + 1))))]) dX1_isSame_344 9 rfl (by decide) [1, 2, 3, 4, 5, 6, 7, 8, 9, 0, 10, 11] rfl ?_
                refine j_goto (pc := 347) C 144 dX1_isSame_347 (by decide) ?_
                refine J.sub (ws' := wG h c1 c2 K Dm L lo hi su db S dy li so sp tu ah (wg L lo hi su db (wg L lo hi su db (wg L lo hi su db N S) S) S) ++ (gA c1 q1_ 5 (upZ F1 (K i) i) ++ (gO o la sa dy li so sp ++ (gR c2 la L.toNat r ++ (gR c2 sa S.toNat q ++ (gB c1 r L.toNat 2 (fL K Dm) ++ (gB c1 q S.toNat 4 (fS lo hi su db) ++ ([])))))))) (rest := []) (perm_of_count (fun cnt h1_ h0_ => by simp only [wU, wS, wGS, h1_, h0_] <;> omega)) ?_
                refine J.pick (lv' := [(0, .ref o), (1, .ref (h 0)), (2, .int (zI L)), (3, .int (zI ((zc (pDm li Dm) (i + 1) L) + (bI (pDm li Dm) i)))), (4, .int (zI ((zc (pDr (wz L lo hi su db S) li) (i + 1) L) + (bI (pDr (wz L lo hi su db S) li) i)))), (5, .int (zI ((zc (pWt (wz L lo hi su db S) li) (i + 1) L) + (bI (pWt (wz L lo hi su db S) li) i)))), (6, .int (zI i)), (7, .int (zI ((wz L lo hi su db S) i (i + 1)))), (8, .ref q1_), (9, .int (zI (i + (-1))))]) [0, 1, 2, 3, 4, 5, 6, 7, 8, 9] rfl ?_
                exact J.widen (by omega) (by omega) (J.cast (hk_144 ⟨(wg L lo hi su db (wg L lo hi su db (wg L lo hi su db N S) S) S), upZ F1 (K i) i, i, (wz L lo hi su db S) i (i + 1)⟩ (by rw [show i - 1 + 1 = i by omega]; exact ⟨FI_dn hFI (by omega), hWI.take (by omega) c_330 (fun j a b => (hG j a b).1) h0i⟩)) (by rfl) (by rw [show i + (-1) = i - 1 by omega, show i - 1 + 1 = i by omega, zc_dn (pDm li Dm) i L (by omega), zc_dn (pDr (wz L lo hi su db S) li) i L (by omega), zc_dn (pWt (wz L lo hi su db S) li) i L (by omega)]) rfl)
              · skip
                refine j_goto (pc := 333) C 344 dX1_isSame_333 (by decide) ?_
                refine j_iinc (pc := 344) C (x := i) (lv' := [(0, .ref o), (1, .ref (h 0)), (2, .int (zI L)), (3, .int (zI ((zc (pDm li Dm) (i + 1) L) + (bI (pDm li Dm) i)))), (4, .int (zI ((zc (pDr (wz L lo hi su db S) li) (i + 1) L) + (bI (pDr (wz L lo hi su db S) li) i)))), (5, .int (zI ((zc (pWt (wz L lo hi su db S) li) (i + 1) L) + (bI (pWt (wz L lo hi su db S) li) i)))), (6, .int (zI w9)), (7, .int (zI m9)), (8, .ref q1_), (9, .int (zI (i + (-1)))), (10, .int (zI (-((wz L lo hi su db S) (i + 1) i)))), (11, .int (zI ((wz L lo hi su db S) i (i + 1))))]) dX1_isSame_344 9 rfl (by decide) [1, 2, 3, 4, 5, 6, 7, 8, 9, 0, 10, 11] rfl ?_
                refine j_goto (pc := 347) C 144 dX1_isSame_347 (by decide) ?_
                refine J.sub (ws' := wG h c1 c2 K Dm L lo hi su db S dy li so sp tu ah (wg L lo hi su db (wg L lo hi su db (wg L lo hi su db N S) S) S) ++ (gA c1 q1_ 5 (upZ F1 (K i) i) ++ (gO o la sa dy li so sp ++ (gR c2 la L.toNat r ++ (gR c2 sa S.toNat q ++ (gB c1 r L.toNat 2 (fL K Dm) ++ (gB c1 q S.toNat 4 (fS lo hi su db) ++ ([])))))))) (rest := []) (perm_of_count (fun cnt h1_ h0_ => by simp only [wU, wS, wGS, h1_, h0_] <;> omega)) ?_
                refine J.pick (lv' := [(0, .ref o), (1, .ref (h 0)), (2, .int (zI L)), (3, .int (zI ((zc (pDm li Dm) (i + 1) L) + (bI (pDm li Dm) i)))), (4, .int (zI ((zc (pDr (wz L lo hi su db S) li) (i + 1) L) + (bI (pDr (wz L lo hi su db S) li) i)))), (5, .int (zI ((zc (pWt (wz L lo hi su db S) li) (i + 1) L) + (bI (pWt (wz L lo hi su db S) li) i)))), (6, .int (zI w9)), (7, .int (zI m9)), (8, .ref q1_), (9, .int (zI (i + (-1))))]) [0, 1, 2, 3, 4, 5, 6, 7, 8, 9] rfl ?_
                exact J.widen (by omega) (by omega) (J.cast (hk_144 ⟨(wg L lo hi su db (wg L lo hi su db (wg L lo hi su db N S) S) S), upZ F1 (K i) i, w9, m9⟩ (by rw [show i - 1 + 1 = i by omega]; exact ⟨FI_dn hFI (by omega), hWI.skip c_330 (hG i h0i (by omega)).1⟩)) (by rfl) (by rw [show i + (-1) = i - 1 by omega, show i - 1 + 1 = i by omega, zc_dn (pDm li Dm) i L (by omega), zc_dn (pDr (wz L lo hi su db S) li) i L (by omega), zc_dn (pWt (wz L lo hi su db S) li) i L (by omega)]) rfl)
            · intro kj_309
              try dsimp only at kj_309 ⊢
              refine j_iload (pc := 295) C dX1_isSame_295 10 rfl ?_
              refine j_aload_n (pc := 297) C dX1_isSame_297 0 rfl ?_
              refine j_get (pc := 298) C (ref := "GrainSiloLaw$Sim") (T := TX1) (N := 6) hin _ (At.r (At.l (k := 0) rfl)) rfl 1 (by decide) (C.w 4 rfl) rfl rfl dX1_isSame_298 ?_
              refine j_icmp_le (pc := 301) C 308 dX1_isSame_301 (by decide) ⟨by omega, by omega⟩ ⟨by omega, by omega⟩ (fun c_301 => ?_) (fun c_301 => ?_)
              · skip
                refine j_iconst (pc := 308) C dX1_isSame_308 ?_
                exact J.widen (by omega) (by omega) (J.cast (kj_309 () trivial) (by rfl) (by rfl) (by rw [bI_0 (p := pWt (wz L lo hi su db S) li) (i := i) (decide_eq_false (by omega))]))
              · skip
                refine j_iconst (pc := 304) C dX1_isSame_304 ?_
                refine j_goto (pc := 305) C 309 dX1_isSame_305 (by decide) ?_
                exact J.widen (by omega) (by omega) (J.cast (kj_309 () trivial) (by rfl) (by rfl) (by rw [bI_1 (p := pWt (wz L lo hi su db S) li) (i := i) (decide_eq_true (by omega))]))
          · intro kj_290
            try dsimp only at kj_290 ⊢
            refine j_iload (pc := 276) C dX1_isSame_276 11 rfl ?_
            refine j_aload_n (pc := 278) C dX1_isSame_278 0 rfl ?_
            refine j_get (pc := 279) C (ref := "GrainSiloLaw$Sim") (T := TX1) (N := 6) hin _ (At.r (At.l (k := 0) rfl)) rfl 1 (by decide) (C.w 4 rfl) rfl rfl dX1_isSame_279 ?_
            refine j_icmp_gt (pc := 282) C 289 dX1_isSame_282 (by decide) ⟨by omega, by omega⟩ ⟨by omega, by omega⟩ (fun c_282 => ?_) (fun c_282 => ?_)
            · skip
              refine j_iconst (pc := 289) C dX1_isSame_289 ?_
              exact J.widen (by omega) (by omega) (J.cast (kj_290 () trivial) (by rfl) (by rfl) (by rw [bI_0 (p := pDr (wz L lo hi su db S) li) (i := i) (decide_eq_false (by omega))]))
            · skip
              refine j_iconst (pc := 285) C dX1_isSame_285 ?_
              refine j_goto (pc := 286) C 290 dX1_isSame_286 (by decide) ?_
              exact J.widen (by omega) (by omega) (J.cast (kj_290 () trivial) (by rfl) (by rfl) (by rw [bI_1 (p := pDr (wz L lo hi su db S) li) (i := i) (decide_eq_true (by omega))]))
        · intro kj_272
          try dsimp only at kj_272 ⊢
          refine j_aload_n (pc := 251) C dX1_isSame_251 0 rfl ?_
          refine j_get (pc := 252) C (ref := "GrainSiloLaw$Sim") (T := TX1) (N := 6) hin _ (At.r (At.l (k := 0) rfl)) rfl 4 (by decide) (C.w 1 rfl) rfl rfl dX1_isSame_252 ?_
          refine j_iload (pc := 255) C dX1_isSame_255 9 rfl ?_
          refine j_aald (pc := 257) C _ 1 (g := r) (At.r (At.r (At.l (k := 0) rfl))) rfl (by omega) (by omega) (by omega) dX1_isSame_257 ?_
          refine j_iconst (pc := 258) C dX1_isSame_258 ?_
          refine j_iald (pc := 259) C _ 0 (At.r (At.r (At.r (At.r (At.l (gB_at (by omega) (by omega))))))) rfl (by omega) (by omega) (by omega) dX1_isSame_259 ?_
          refine J.cast (ws' := wG h c1 c2 K Dm L lo hi su db S dy li so sp tu ah (wg L lo hi su db (wg L lo hi su db (wg L lo hi su db N S) S) S) ++ (gO o la sa dy li so sp ++ (gR c2 la L.toNat r ++ (gR c2 sa S.toNat q ++ (gB c1 r L.toNat 2 (fL K Dm) ++ (gB c1 q S.toNat 4 (fS lo hi su db) ++ (gA c1 q1_ 5 F1 ++ ([])))))))) (lv' := [(0, .ref o), (1, .ref (h 0)), (2, .int (zI L)), (3, .int (zI (zc (pDm li Dm) (i + 1) L))), (4, .int (zI (zc (pDr (wz L lo hi su db S) li) (i + 1) L))), (5, .int (zI (zc (pWt (wz L lo hi su db S) li) (i + 1) L))), (6, .int (zI w9)), (7, .int (zI m9)), (8, .ref q1_), (9, .int (zI i)), (10, .int (zI (-((wz L lo hi su db S) (i + 1) i)))), (11, .int (zI ((wz L lo hi su db S) i (i + 1))))]) (st' := [.int (zI (Dm i)), .int (zI (zc (pDm li Dm) (i + 1) L))]) ?_ rfl rfl rfl
          refine j_aload_n (pc := 260) C dX1_isSame_260 0 rfl ?_
          refine j_get (pc := 261) C (ref := "GrainSiloLaw$Sim") (T := TX1) (N := 6) hin _ (At.r (At.l (k := 0) rfl)) rfl 1 (by decide) (C.w 4 rfl) rfl rfl dX1_isSame_261 ?_
          refine j_icmp_le (pc := 264) C 271 dX1_isSame_264 (by decide) ⟨by omega, by omega⟩ ⟨by omega, by omega⟩ (fun c_264 => ?_) (fun c_264 => ?_)
          · skip
            refine j_iconst (pc := 271) C dX1_isSame_271 ?_
            exact J.widen (by omega) (by omega) (J.cast (kj_272 () trivial) (by rfl) (by rfl) (by rw [bI_0 (p := pDm li Dm) (i := i) (decide_eq_false (by omega))]))
          · skip
            refine j_iconst (pc := 267) C dX1_isSame_267 ?_
            refine j_goto (pc := 268) C 272 dX1_isSame_268 (by decide) ?_
            exact J.widen (by omega) (by omega) (J.cast (kj_272 () trivial) (by rfl) (by rfl) (by rw [bI_1 (p := pDm li Dm) (i := i) (decide_eq_true (by omega))]))
    · intro x9 hI_144
      obtain ⟨N, F1, w9, m9⟩ := x9
      try dsimp only at hI_144 ⊢
      have hFI : ∀ k, 0 ≤ k → k < 5 → FI K k 0 L (F1 k) := hI_144.1
      have hWI : WI (fun j => (wz L lo hi su db S) j (j + 1)) 0 L w9 m9 := hI_144.2
      refine j_iload (pc := 144) C dX1_isSame_144 9 rfl ?_
      refine j_if_lt (pc := 146) C 350 dX1_isSame_146 (by decide) ⟨by omega, by omega⟩ (fun c_146 => ?_) (fun c_146 => absurd c_146 (by omega))
      refine j_iconst (pc := 350) C dX1_isSame_350 ?_
      refine j_istore (pc := 351) C (lv' := [(0, .ref o), (1, .ref (h 0)), (2, .int (zI L)), (3, .int (zI (zc (pDm li Dm) (((-1)) + 1) L))), (4, .int (zI (zc (pDr (wz L lo hi su db S) li) (((-1)) + 1) L))), (5, .int (zI (zc (pWt (wz L lo hi su db S) li) (((-1)) + 1) L))), (6, .int (zI w9)), (7, .int (zI m9)), (8, .ref q1_), (9, .int (zI 0))]) dX1_isSame_351 (by decide) [1, 2, 3, 4, 5, 6, 7, 8, 9, 0] rfl ?_
      refine J.pick (lv' := [(0, .ref o), (1, .ref (h 0)), (2, .int (zI L)), (3, .int (zI (zc (pDm li Dm) (((-1)) + 1) L))), (4, .int (zI (zc (pDr (wz L lo hi su db S) li) (((-1)) + 1) L))), (5, .int (zI (zc (pWt (wz L lo hi su db S) li) (((-1)) + 1) L))), (6, .int (zI w9)), (8, .ref q1_), (9, .int (zI 0))]) [0, 1, 2, 3, 4, 5, 6, 8, 9] rfl ?_
      refine J.cast (ws' := wG h c1 c2 K Dm L lo hi su db S dy li so sp tu ah N ++ (gA c1 q1_ 5 F1 ++ (gO o la sa dy li so sp ++ (gR c2 la L.toNat r ++ (gR c2 sa S.toNat q ++ (gB c1 r L.toNat 2 (fL K Dm) ++ (gB c1 q S.toNat 4 (fS lo hi su db) ++ ([])))))))) (lv' := [(0, .ref o), (1, .ref (h 0)), (2, .int (zI L)), (3, .int (zI (zc (pDm li Dm) (((-1)) + 1) L))), (4, .int (zI (zc (pDr (wz L lo hi su db S) li) (((-1)) + 1) L))), (5, .int (zI (zc (pWt (wz L lo hi su db S) li) (((-1)) + 1) L))), (6, .int (zI w9)), (8, .ref q1_), (9, .int (zI (((0 : Int)))))]) ?_ (by rfl) (by rfl) rfl
      refine J.widen (k := 1 + 2 * L.toNat) (n := 5 + 26 * L.toNat) (by omega) (by omega) ?_
      refine j_loop (X := Unit) (fun (k : Int) x9 => wG h c1 c2 K Dm L lo hi su db S dy li so sp tu ah N ++ (gA c1 q1_ 5 F1 ++ (gO o la sa dy li so sp ++ (gR c2 la L.toNat r ++ (gR c2 sa S.toNat q ++ (gB c1 r L.toNat 2 (fL K Dm) ++ (gB c1 q S.toNat 4 (fS lo hi su db) ++ ([])))))))) (fun (k : Int) x9 => [(0, .ref o), (1, .ref (h 0)), (2, .int (zI L)), (3, .int (zI (zc (pDm li Dm) (((-1)) + 1) L))), (4, .int (zI (zc (pDr (wz L lo hi su db S) li) (((-1)) + 1) L))), (5, .int (zI (zc (pWt (wz L lo hi su db S) li) (((-1)) + 1) L))), (6, .int (zI w9)), (8, .ref q1_), (9, .int (zI k))]) (fun (k : Int) x9 => True) (fun (k : Int) => 1 + 2 * L.toNat) (fun (k : Int) => 5 + 26 * L.toNat) (0 : Int) 5 (by omega) ?_ ?_ () trivial
      · intro k x9 h0_353 h1_353 hI_353 hk_353
        try dsimp only at hI_353 hk_353 ⊢
        refine j_iload (pc := 353) C dX1_isSame_353 8 rfl ?_
        refine j_iconst (pc := 355) C dX1_isSame_355 ?_
        refine j_icmp_ge (pc := 356) C 381 dX1_isSame_356 (by decide) ⟨by omega, by omega⟩ ⟨by omega, by omega⟩ (fun c_356 => absurd c_356 (by omega)) (fun c_356 => ?_)
        refine j_aload_n (pc := 359) C dX1_isSame_359 1 rfl ?_
        refine j_iload (pc := 360) C dX1_isSame_360 8 rfl ?_
        refine j_callPI (pc := 362) C (As := [.int (zI k)]) (rest := []) (wr := gA c1 q1_ 5 F1 ++ (gO o la sa dy li so sp ++ (gR c2 la L.toNat r ++ (gR c2 sa S.toNat q ++ (gB c1 r L.toNat 2 (fL K Dm) ++ (gB c1 q S.toNat 4 (fS lo hi su db) ++ ([]))))))) (kX0_layersAheadOf l D h c1 c2 c3 K Dm L lo hi su db S dy li so sp tu ah N k (by omega) (by omega) (by omega) (by omega) hkK) (cwV 1 C.2.2.2.2.1 gX1_isSame_X0_layersAheadOf rfl rfl rfl (by decide +kernel) ⟨Nat.le_of_ble_eq_true rfl, Nat.le_of_ble_eq_true rfl⟩) 0 (ci := 0) rfl rfl rfl dX1_isSame_362 rfl rfl (Nat.le_of_ble_eq_true rfl) ⟨(by show _ ≤ 60; omega), (by show _ ≤ 700; omega)⟩ ?_
        refine j_aload (pc := 365) C dX1_isSame_365 7 rfl ?_
        refine j_iload (pc := 367) C dX1_isSame_367 8 rfl ?_
        refine j_iald (pc := 369) C _ 0 (At.r (At.l (k := 0) rfl)) rfl (by omega) (by omega) (by omega) dX1_isSame_369 ?_
        have e370 := FI_fidx hL0 (hFI k h0_353 (by omega))
        have e371 := FI_in (Int.le_refl 0) (hFI k h0_353 (by omega))
        refine j_icmp_eq (pc := 370) C 375 dX1_isSame_370 (by decide) ⟨by omega, by omega⟩ ⟨by omega, by omega⟩ (fun c_370 => ?_) (fun c_370 => absurd c_370 (by omega))
        refine j_iinc (pc := 375) C (x := k) (lv' := [(0, .ref o), (1, .ref (h 0)), (2, .int (zI L)), (3, .int (zI (zc (pDm li Dm) (((-1)) + 1) L))), (4, .int (zI (zc (pDr (wz L lo hi su db S) li) (((-1)) + 1) L))), (5, .int (zI (zc (pWt (wz L lo hi su db S) li) (((-1)) + 1) L))), (6, .int (zI w9)), (8, .ref q1_), (9, .int (zI (k + 1)))]) dX1_isSame_375 8 rfl (by decide) [1, 2, 3, 4, 5, 6, 7, 8, 0] rfl ?_
        refine j_goto (pc := 378) C 353 dX1_isSame_378 (by decide) ?_
        exact J.widen (by omega) (by omega) (J.cast (hk_353 () trivial) (by rfl) (by rfl) rfl)
      · intro x9 hI_353
        try dsimp only at hI_353 ⊢
        refine j_iload (pc := 353) C dX1_isSame_353 8 rfl ?_
        refine j_iconst (pc := 355) C dX1_isSame_355 ?_
        refine j_icmp_ge (pc := 356) C 381 dX1_isSame_356 (by decide) ⟨by omega, by omega⟩ ⟨by omega, by omega⟩ (fun c_356 => ?_) (fun c_356 => absurd c_356 (by omega))
        refine j_iconst (pc := 381) C dX1_isSame_381 ?_
        refine j_istore (pc := 382) C (lv' := [(0, .ref o), (1, .ref (h 0)), (2, .int (zI L)), (3, .int (zI (zc (pDm li Dm) (((-1)) + 1) L))), (4, .int (zI (zc (pDr (wz L lo hi su db S) li) (((-1)) + 1) L))), (5, .int (zI (zc (pWt (wz L lo hi su db S) li) (((-1)) + 1) L))), (6, .int (zI w9)), (8, .ref q1_), (9, .int (zI 0))]) dX1_isSame_382 (by decide) [1, 2, 3, 4, 5, 6, 7, 8, 0] rfl ?_
        refine J.pick (lv' := [(0, .ref o), (1, .ref (h 0)), (2, .int (zI L)), (3, .int (zI (zc (pDm li Dm) (((-1)) + 1) L))), (4, .int (zI (zc (pDr (wz L lo hi su db S) li) (((-1)) + 1) L))), (5, .int (zI (zc (pWt (wz L lo hi su db S) li) (((-1)) + 1) L))), (6, .int (zI w9)), (9, .int (zI 0))]) [0, 1, 2, 3, 4, 5, 6, 8] rfl ?_
        refine J.cast (ws' := wG h c1 c2 K Dm L lo hi su db S dy li so sp tu ah N ++ (gA c1 q1_ 5 F1 ++ (gO o la sa dy li so sp ++ (gR c2 la L.toNat r ++ (gR c2 sa S.toNat q ++ (gB c1 r L.toNat 2 (fL K Dm) ++ (gB c1 q S.toNat 4 (fS lo hi su db) ++ ([])))))))) (lv' := [(0, .ref o), (1, .ref (h 0)), (2, .int (zI L)), (3, .int (zI (zc (pDm li Dm) (((-1)) + 1) L))), (4, .int (zI (zc (pDr (wz L lo hi su db S) li) (((-1)) + 1) L))), (5, .int (zI (zc (pWt (wz L lo hi su db S) li) (((-1)) + 1) L))), (6, .int (zI w9)), (9, .int (zI (((0 : Int)))))]) ?_ (by rfl) (by rfl) rfl
        refine J.widen (k := 1 + 2 * L.toNat) (n := 5 + 26 * L.toNat) (by omega) (by omega) ?_
        refine j_loop (X := Unit) (fun (k : Int) x9 => wG h c1 c2 K Dm L lo hi su db S dy li so sp tu ah N ++ (gA c1 q1_ 5 F1 ++ (gO o la sa dy li so sp ++ (gR c2 la L.toNat r ++ (gR c2 sa S.toNat q ++ (gB c1 r L.toNat 2 (fL K Dm) ++ (gB c1 q S.toNat 4 (fS lo hi su db) ++ ([])))))))) (fun (k : Int) x9 => [(0, .ref o), (1, .ref (h 0)), (2, .int (zI L)), (3, .int (zI (zc (pDm li Dm) (((-1)) + 1) L))), (4, .int (zI (zc (pDr (wz L lo hi su db S) li) (((-1)) + 1) L))), (5, .int (zI (zc (pWt (wz L lo hi su db S) li) (((-1)) + 1) L))), (6, .int (zI w9)), (9, .int (zI k))]) (fun (k : Int) x9 => True) (fun (k : Int) => 1 + 2 * L.toNat) (fun (k : Int) => 5 + 26 * L.toNat) (0 : Int) S (by omega) ?_ ?_ () trivial
        · intro k x9 h0_384 h1_384 hI_384 hk_384
          try dsimp only at hI_384 hk_384 ⊢
          obtain ⟨s1, s2, s3, s4, s5, s6, s7⟩ := hs k h0_384 h1_384
          have hz := zs_bnd hf (lo k) (hi k + 1) s1 (by omega) (by omega)
          refine j_iload (pc := 384) C dX1_isSame_384 7 rfl ?_
          refine j_aload_n (pc := 386) C dX1_isSame_386 0 rfl ?_
          refine j_get (pc := 387) C (ref := "GrainSiloLaw$Sim") (T := TX1) (N := 6) hin _ (At.r (At.r (At.l (k := 0) rfl))) rfl 5 (by decide) (C.w 2 rfl) rfl rfl dX1_isSame_387 ?_
          refine j_alen (pc := 390) C _ 1 (At.r (At.r (At.r (At.r (At.l (k := 0) rfl))))) rfl (z := S) (alen_eq (by omega) (by omega)) dX1_isSame_390 ?_
          refine j_icmp_ge (pc := 391) C 474 dX1_isSame_391 (by decide) ⟨by omega, by omega⟩ ⟨by omega, by omega⟩ (fun c_391 => absurd c_391 (by omega)) (fun c_391 => ?_)
          refine j_aload_n (pc := 394) C dX1_isSame_394 1 rfl ?_
          refine j_iload (pc := 395) C dX1_isSame_395 7 rfl ?_
          refine j_callPI (pc := 397) C (As := [.int (zI k)]) (rest := []) (wr := gA c1 q1_ 5 F1 ++ (gO o la sa dy li so sp ++ (gR c2 la L.toNat r ++ (gR c2 sa S.toNat q ++ (gB c1 r L.toNat 2 (fL K Dm) ++ (gB c1 q S.toNat 4 (fS lo hi su db) ++ ([]))))))) (kX0_lowestOf l D h c1 c2 c3 K Dm L lo hi su db S dy li so sp tu ah N k (by omega) (by omega) (by omega)) (cwV 1 C.2.2.2.2.1 gX1_isSame_X0_lowestOf rfl rfl rfl (by decide +kernel) ⟨Nat.le_of_ble_eq_true rfl, Nat.le_of_ble_eq_true rfl⟩) 0 (ci := 0) rfl rfl rfl dX1_isSame_397 rfl rfl (Nat.le_of_ble_eq_true rfl) ⟨(by show _ ≤ 60; omega), (by show _ ≤ 700; omega)⟩ ?_
          refine j_aload_n (pc := 400) C dX1_isSame_400 0 rfl ?_
          refine j_get (pc := 401) C (ref := "GrainSiloLaw$Sim") (T := TX1) (N := 6) hin _ (At.r (At.r (At.l (k := 0) rfl))) rfl 5 (by decide) (C.w 2 rfl) rfl rfl dX1_isSame_401 ?_
          refine j_iload (pc := 404) C dX1_isSame_404 7 rfl ?_
          refine j_aald (pc := 406) C _ 1 (g := q) (At.r (At.r (At.r (At.r (At.l (k := 0) rfl))))) rfl (by omega) (by omega) (by omega) dX1_isSame_406 ?_
          refine j_iconst (pc := 407) C dX1_isSame_407 ?_
          refine j_iald (pc := 408) C _ 0 (At.r (At.r (At.r (At.r (At.r (At.r (At.l (gB_at (by omega) (by omega))))))))) rfl (by omega) (by omega) (by omega) dX1_isSame_408 ?_
          refine J.cast (ws' := wG h c1 c2 K Dm L lo hi su db S dy li so sp tu ah N ++ (gA c1 q1_ 5 F1 ++ (gO o la sa dy li so sp ++ (gR c2 la L.toNat r ++ (gR c2 sa S.toNat q ++ (gB c1 r L.toNat 2 (fL K Dm) ++ (gB c1 q S.toNat 4 (fS lo hi su db) ++ ([])))))))) (lv' := [(0, .ref o), (1, .ref (h 0)), (2, .int (zI L)), (3, .int (zI (zc (pDm li Dm) (((-1)) + 1) L))), (4, .int (zI (zc (pDr (wz L lo hi su db S) li) (((-1)) + 1) L))), (5, .int (zI (zc (pWt (wz L lo hi su db S) li) (((-1)) + 1) L))), (6, .int (zI w9)), (9, .int (zI k))]) (st' := [.int (zI (lo k)), .int (zI (lo k))]) ?_ rfl rfl rfl
          refine j_icmp_ne (pc := 409) C 466 dX1_isSame_409 (by decide) ⟨by omega, by omega⟩ ⟨by omega, by omega⟩ (fun c_409 => absurd c_409 (by omega)) (fun c_409 => ?_)
          refine j_aload_n (pc := 412) C dX1_isSame_412 1 rfl ?_
          refine j_iload (pc := 413) C dX1_isSame_413 7 rfl ?_
          refine j_callPI (pc := 415) C (As := [.int (zI k)]) (rest := []) (wr := gA c1 q1_ 5 F1 ++ (gO o la sa dy li so sp ++ (gR c2 la L.toNat r ++ (gR c2 sa S.toNat q ++ (gB c1 r L.toNat 2 (fL K Dm) ++ (gB c1 q S.toNat 4 (fS lo hi su db) ++ ([]))))))) (kX0_highestOf l D h c1 c2 c3 K Dm L lo hi su db S dy li so sp tu ah N k (by omega) (by omega) (by omega)) (cwV 1 C.2.2.2.2.1 gX1_isSame_X0_highestOf rfl rfl rfl (by decide +kernel) ⟨Nat.le_of_ble_eq_true rfl, Nat.le_of_ble_eq_true rfl⟩) 0 (ci := 0) rfl rfl rfl dX1_isSame_415 rfl rfl (Nat.le_of_ble_eq_true rfl) ⟨(by show _ ≤ 60; omega), (by show _ ≤ 700; omega)⟩ ?_
          refine j_aload_n (pc := 418) C dX1_isSame_418 0 rfl ?_
          refine j_get (pc := 419) C (ref := "GrainSiloLaw$Sim") (T := TX1) (N := 6) hin _ (At.r (At.r (At.l (k := 0) rfl))) rfl 5 (by decide) (C.w 2 rfl) rfl rfl dX1_isSame_419 ?_
          refine j_iload (pc := 422) C dX1_isSame_422 7 rfl ?_
          refine j_aald (pc := 424) C _ 1 (g := q) (At.r (At.r (At.r (At.r (At.l (k := 0) rfl))))) rfl (by omega) (by omega) (by omega) dX1_isSame_424 ?_
          refine j_iconst (pc := 425) C dX1_isSame_425 ?_
          refine j_iald (pc := 426) C _ 0 (At.r (At.r (At.r (At.r (At.r (At.r (At.l (gB_at (by omega) (by omega))))))))) rfl (by omega) (by omega) (by omega) dX1_isSame_426 ?_
          refine J.cast (ws' := wG h c1 c2 K Dm L lo hi su db S dy li so sp tu ah N ++ (gA c1 q1_ 5 F1 ++ (gO o la sa dy li so sp ++ (gR c2 la L.toNat r ++ (gR c2 sa S.toNat q ++ (gB c1 r L.toNat 2 (fL K Dm) ++ (gB c1 q S.toNat 4 (fS lo hi su db) ++ ([])))))))) (lv' := [(0, .ref o), (1, .ref (h 0)), (2, .int (zI L)), (3, .int (zI (zc (pDm li Dm) (((-1)) + 1) L))), (4, .int (zI (zc (pDr (wz L lo hi su db S) li) (((-1)) + 1) L))), (5, .int (zI (zc (pWt (wz L lo hi su db S) li) (((-1)) + 1) L))), (6, .int (zI w9)), (9, .int (zI k))]) (st' := [.int (zI (hi k)), .int (zI (hi k))]) ?_ rfl rfl rfl
          refine j_icmp_ne (pc := 427) C 466 dX1_isSame_427 (by decide) ⟨by omega, by omega⟩ ⟨by omega, by omega⟩ (fun c_427 => absurd c_427 (by omega)) (fun c_427 => ?_)
          refine j_aload_n (pc := 430) C dX1_isSame_430 1 rfl ?_
          refine j_iload (pc := 431) C dX1_isSame_431 7 rfl ?_
          refine j_callPI (pc := 433) C (As := [.int (zI k)]) (rest := []) (wr := gA c1 q1_ 5 F1 ++ (gO o la sa dy li so sp ++ (gR c2 la L.toNat r ++ (gR c2 sa S.toNat q ++ (gB c1 r L.toNat 2 (fL K Dm) ++ (gB c1 q S.toNat 4 (fS lo hi su db) ++ ([]))))))) (kX0_sumOf l D h c1 c2 c3 K Dm L lo hi su db S dy li so sp tu ah N k (by omega) (by omega) (by omega)) (cwV 1 C.2.2.2.2.1 gX1_isSame_X0_sumOf rfl rfl rfl (by decide +kernel) ⟨Nat.le_of_ble_eq_true rfl, Nat.le_of_ble_eq_true rfl⟩) 0 (ci := 0) rfl rfl rfl dX1_isSame_433 rfl rfl (Nat.le_of_ble_eq_true rfl) ⟨(by show _ ≤ 60; omega), (by show _ ≤ 700; omega)⟩ ?_
          refine j_aload_n (pc := 436) C dX1_isSame_436 0 rfl ?_
          refine j_get (pc := 437) C (ref := "GrainSiloLaw$Sim") (T := TX1) (N := 6) hin _ (At.r (At.r (At.l (k := 0) rfl))) rfl 5 (by decide) (C.w 2 rfl) rfl rfl dX1_isSame_437 ?_
          refine j_iload (pc := 440) C dX1_isSame_440 7 rfl ?_
          refine j_aald (pc := 442) C _ 1 (g := q) (At.r (At.r (At.r (At.r (At.l (k := 0) rfl))))) rfl (by omega) (by omega) (by omega) dX1_isSame_442 ?_
          refine j_iconst (pc := 443) C dX1_isSame_443 ?_
          refine j_iald (pc := 444) C _ 0 (At.r (At.r (At.r (At.r (At.r (At.r (At.l (gB_at (by omega) (by omega))))))))) rfl (by omega) (by omega) (by omega) dX1_isSame_444 ?_
          refine J.cast (ws' := wG h c1 c2 K Dm L lo hi su db S dy li so sp tu ah N ++ (gA c1 q1_ 5 F1 ++ (gO o la sa dy li so sp ++ (gR c2 la L.toNat r ++ (gR c2 sa S.toNat q ++ (gB c1 r L.toNat 2 (fL K Dm) ++ (gB c1 q S.toNat 4 (fS lo hi su db) ++ ([])))))))) (lv' := [(0, .ref o), (1, .ref (h 0)), (2, .int (zI L)), (3, .int (zI (zc (pDm li Dm) (((-1)) + 1) L))), (4, .int (zI (zc (pDr (wz L lo hi su db S) li) (((-1)) + 1) L))), (5, .int (zI (zc (pWt (wz L lo hi su db S) li) (((-1)) + 1) L))), (6, .int (zI w9)), (9, .int (zI k))]) (st' := [.int (zI (su k)), .int (zI (su k))]) ?_ rfl rfl rfl
          refine j_icmp_ne (pc := 445) C 466 dX1_isSame_445 (by decide) ⟨by omega, by omega⟩ ⟨by omega, by omega⟩ (fun c_445 => absurd c_445 (by omega)) (fun c_445 => ?_)
          refine j_aload_n (pc := 448) C dX1_isSame_448 1 rfl ?_
          refine j_iload (pc := 449) C dX1_isSame_449 7 rfl ?_
          refine j_callPI (pc := 451) C (As := [.int (zI k)]) (rest := []) (wr := gA c1 q1_ 5 F1 ++ (gO o la sa dy li so sp ++ (gR c2 la L.toNat r ++ (gR c2 sa S.toNat q ++ (gB c1 r L.toNat 2 (fL K Dm) ++ (gB c1 q S.toNat 4 (fS lo hi su db) ++ ([]))))))) (kX0_doubtOf l D h c1 c2 c3 K Dm L lo hi su db S dy li so sp tu ah N k (by omega) (by omega) (by omega)) (cwV 1 C.2.2.2.2.1 gX1_isSame_X0_doubtOf rfl rfl rfl (by decide +kernel) ⟨Nat.le_of_ble_eq_true rfl, Nat.le_of_ble_eq_true rfl⟩) 0 (ci := 0) rfl rfl rfl dX1_isSame_451 rfl rfl (Nat.le_of_ble_eq_true rfl) ⟨(by show _ ≤ 60; omega), (by show _ ≤ 700; omega)⟩ ?_
          refine j_aload_n (pc := 454) C dX1_isSame_454 0 rfl ?_
          refine j_get (pc := 455) C (ref := "GrainSiloLaw$Sim") (T := TX1) (N := 6) hin _ (At.r (At.r (At.l (k := 0) rfl))) rfl 5 (by decide) (C.w 2 rfl) rfl rfl dX1_isSame_455 ?_
          refine j_iload (pc := 458) C dX1_isSame_458 7 rfl ?_
          refine j_aald (pc := 460) C _ 1 (g := q) (At.r (At.r (At.r (At.r (At.l (k := 0) rfl))))) rfl (by omega) (by omega) (by omega) dX1_isSame_460 ?_
          refine j_iconst (pc := 461) C dX1_isSame_461 ?_
          refine j_iald (pc := 462) C _ 0 (At.r (At.r (At.r (At.r (At.r (At.r (At.l (gB_at (by omega) (by omega))))))))) rfl (by omega) (by omega) (by omega) dX1_isSame_462 ?_
          refine J.cast (ws' := wG h c1 c2 K Dm L lo hi su db S dy li so sp tu ah N ++ (gA c1 q1_ 5 F1 ++ (gO o la sa dy li so sp ++ (gR c2 la L.toNat r ++ (gR c2 sa S.toNat q ++ (gB c1 r L.toNat 2 (fL K Dm) ++ (gB c1 q S.toNat 4 (fS lo hi su db) ++ ([])))))))) (lv' := [(0, .ref o), (1, .ref (h 0)), (2, .int (zI L)), (3, .int (zI (zc (pDm li Dm) (((-1)) + 1) L))), (4, .int (zI (zc (pDr (wz L lo hi su db S) li) (((-1)) + 1) L))), (5, .int (zI (zc (pWt (wz L lo hi su db S) li) (((-1)) + 1) L))), (6, .int (zI w9)), (9, .int (zI k))]) (st' := [.int (zI (db k)), .int (zI (db k))]) ?_ rfl rfl rfl
          refine j_icmp_eq (pc := 463) C 468 dX1_isSame_463 (by decide) ⟨by omega, by omega⟩ ⟨by omega, by omega⟩ (fun c_463 => ?_) (fun c_463 => absurd c_463 (by omega))
          refine j_iinc (pc := 468) C (x := k) (lv' := [(0, .ref o), (1, .ref (h 0)), (2, .int (zI L)), (3, .int (zI (zc (pDm li Dm) (((-1)) + 1) L))), (4, .int (zI (zc (pDr (wz L lo hi su db S) li) (((-1)) + 1) L))), (5, .int (zI (zc (pWt (wz L lo hi su db S) li) (((-1)) + 1) L))), (6, .int (zI w9)), (9, .int (zI (k + 1)))]) dX1_isSame_468 7 rfl (by decide) [1, 2, 3, 4, 5, 6, 7, 0] rfl ?_
          refine j_goto (pc := 471) C 384 dX1_isSame_471 (by decide) ?_
          exact J.widen (by omega) (by omega) (J.cast (hk_384 () trivial) (by rfl) (by rfl) rfl)
        · intro x9 hI_384
          try dsimp only at hI_384 ⊢
          refine j_iload (pc := 384) C dX1_isSame_384 7 rfl ?_
          refine j_aload_n (pc := 386) C dX1_isSame_386 0 rfl ?_
          refine j_get (pc := 387) C (ref := "GrainSiloLaw$Sim") (T := TX1) (N := 6) hin _ (At.r (At.r (At.l (k := 0) rfl))) rfl 5 (by decide) (C.w 2 rfl) rfl rfl dX1_isSame_387 ?_
          refine j_alen (pc := 390) C _ 1 (At.r (At.r (At.r (At.r (At.l (k := 0) rfl))))) rfl (z := S) (alen_eq (by omega) (by omega)) dX1_isSame_390 ?_
          refine j_icmp_ge (pc := 391) C 474 dX1_isSame_391 (by decide) ⟨by omega, by omega⟩ ⟨by omega, by omega⟩ (fun c_391 => ?_) (fun c_391 => absurd c_391 (by omega))
          refine j_aload_n (pc := 474) C dX1_isSame_474 1 rfl ?_
          refine j_callPI (pc := 475) C (As := []) (rest := []) (wr := gA c1 q1_ 5 F1 ++ (gO o la sa dy li so sp ++ (gR c2 la L.toNat r ++ (gR c2 sa S.toNat q ++ (gB c1 r L.toNat 2 (fL K Dm) ++ (gB c1 q S.toNat 4 (fS lo hi su db) ++ ([]))))))) (kX0_dampLayers l D h c1 c2 c3 K Dm L lo hi su db S dy li so sp tu ah N  (by omega) (by omega) (by omega) (by omega) hok.2.2.1) (cwV 0 C.2.2.2.2.1 gX1_isSame_X0_dampLayers rfl rfl rfl (by decide +kernel) ⟨Nat.le_of_ble_eq_true rfl, Nat.le_of_ble_eq_true rfl⟩) 0 (ci := 0) rfl rfl rfl dX1_isSame_475 rfl rfl (Nat.le_of_ble_eq_true rfl) ⟨(by show _ ≤ 60; omega), (by show _ ≤ 700; omega)⟩ ?_
          refine j_iload_n (pc := 478) C dX1_isSame_478 3 rfl ?_
          have hz1 := zc_le (pDm li Dm) 0 L hL0
          have e479 : zc (fun j => decide (li < Dm j)) 0 L = zc (pDm li Dm) 0 L := rfl
          have e4790 : zc (pDm li Dm) (-1 + 1) L = zc (pDm li Dm) 0 L := rfl
          refine j_icmp_ne (pc := 479) C 528 dX1_isSame_479 (by decide) ⟨by omega, by omega⟩ ⟨by omega, by omega⟩ (fun c_479 => absurd c_479 (by omega)) (fun c_479 => ?_)
          refine j_aload_n (pc := 482) C dX1_isSame_482 1 rfl ?_
          refine j_callPI (pc := 483) C (As := []) (rest := []) (wr := gA c1 q1_ 5 F1 ++ (gO o la sa dy li so sp ++ (gR c2 la L.toNat r ++ (gR c2 sa S.toNat q ++ (gB c1 r L.toNat 2 (fL K Dm) ++ (gB c1 q S.toNat 4 (fS lo hi su db) ++ ([]))))))) (kX0_surelyDry l D h c1 c2 c3 K Dm L lo hi su db S dy li so sp tu ah N  hok (by omega) (by omega)) (cwV 0 C.2.2.2.2.1 gX1_isSame_X0_surelyDry rfl rfl rfl (by decide +kernel) ⟨Nat.le_of_ble_eq_true rfl, Nat.le_of_ble_eq_true rfl⟩) 0 (ci := 0) rfl rfl rfl dX1_isSame_483 rfl rfl (Nat.le_of_ble_eq_true rfl) ⟨(by show _ ≤ 60; omega), (by show _ ≤ 700; omega)⟩ ?_
          refine j_iload (pc := 486) C dX1_isSame_486 4 rfl ?_
          have hz2 := zc_le (pDr (wz L lo hi su db S) li) 0 L hL0
          have e488 : nDry (wg L lo hi su db N S) li L = zc (pDr (wz L lo hi su db S) li) 0 L := eqL_nDry (wz_eq hok _) li
          have e4880 : zc (pDr (wz L lo hi su db S) li) (-1 + 1) L = zc (pDr (wz L lo hi su db S) li) 0 L := rfl
          refine j_icmp_ne (pc := 488) C 528 dX1_isSame_488 (by decide) ⟨by omega, by omega⟩ ⟨by omega, by omega⟩ (fun c_488 => absurd c_488 (by omega)) (fun c_488 => ?_)
          refine j_aload_n (pc := 491) C dX1_isSame_491 1 rfl ?_
          refine j_callPI (pc := 492) C (As := []) (rest := []) (wr := gA c1 q1_ 5 F1 ++ (gO o la sa dy li so sp ++ (gR c2 la L.toNat r ++ (gR c2 sa S.toNat q ++ (gB c1 r L.toNat 2 (fL K Dm) ++ (gB c1 q S.toNat 4 (fS lo hi su db) ++ ([]))))))) (kX0_surelyDamp l D h c1 c2 c3 K Dm L lo hi su db S dy li so sp tu ah (wg L lo hi su db N S)  hok (by omega) (by omega)) (cwV 0 C.2.2.2.2.1 gX1_isSame_X0_surelyDamp rfl rfl rfl (by decide +kernel) ⟨Nat.le_of_ble_eq_true rfl, Nat.le_of_ble_eq_true rfl⟩) 0 (ci := 0) rfl rfl rfl dX1_isSame_492 rfl rfl (Nat.le_of_ble_eq_true rfl) ⟨(by show _ ≤ 60; omega), (by show _ ≤ 700; omega)⟩ ?_
          refine j_iload (pc := 495) C dX1_isSame_495 5 rfl ?_
          have hz3 := zc_le (pWt (wz L lo hi su db S) li) 0 L hL0
          have e497 : nDamp (wg L lo hi su db (wg L lo hi su db N S) S) li L = zc (pWt (wz L lo hi su db S) li) 0 L := eqL_nDamp (wz_eq hok _) li
          have e4970 : zc (pWt (wz L lo hi su db S) li) (-1 + 1) L = zc (pWt (wz L lo hi su db S) li) 0 L := rfl
          refine j_icmp_ne (pc := 497) C 528 dX1_isSame_497 (by decide) ⟨by omega, by omega⟩ ⟨by omega, by omega⟩ (fun c_497 => absurd c_497 (by omega)) (fun c_497 => ?_)
          refine j_aload_n (pc := 500) C dX1_isSame_500 1 rfl ?_
          refine j_callPI (pc := 501) C (As := []) (rest := []) (wr := gA c1 q1_ 5 F1 ++ (gO o la sa dy li so sp ++ (gR c2 la L.toNat r ++ (gR c2 sa S.toNat q ++ (gB c1 r L.toNat 2 (fL K Dm) ++ (gB c1 q S.toNat 4 (fS lo hi su db) ++ ([]))))))) (kX0_doubt l D h c1 c2 c3 K Dm L lo hi su db S dy li so sp tu ah (wg L lo hi su db (wg L lo hi su db N S) S)  hok) (cwV 0 C.2.2.2.2.1 gX1_isSame_X0_doubt rfl rfl rfl (by decide +kernel) ⟨Nat.le_of_ble_eq_true rfl, Nat.le_of_ble_eq_true rfl⟩) 0 (ci := 0) rfl rfl rfl dX1_isSame_501 rfl rfl (Nat.le_of_ble_eq_true rfl) ⟨(by show _ ≤ 60; omega), (by show _ ≤ 700; omega)⟩ ?_
          refine j_aload_n (pc := 504) C dX1_isSame_504 0 rfl ?_
          refine J.perm (ws' := wS c1 c2 o la sa r q dy li so sp L K Dm S lo hi su db ++ (wG h c1 c2 K Dm L lo hi su db S dy li so sp tu ah (wg L lo hi su db (wg L lo hi su db (wg L lo hi su db N S) S) S) ++ (gA c1 q1_ 5 F1 ++ ([])))) (perm_of_count (fun cnt h1_ h0_ => by simp only [wU, wS, wGS, h1_, h0_] <;> omega)) ?_
          refine j_callEI (pc := 505) C E1.be (E1.he ho) (As := []) (rest := [.int (zI (dNow (wg L lo hi su db (wg L lo hi su db (wg L lo hi su db N S) S) S) L))]) (wr := wG h c1 c2 K Dm L lo hi su db S dy li so sp tu ah (wg L lo hi su db (wg L lo hi su db (wg L lo hi su db N S) S) S) ++ (gA c1 q1_ 5 F1 ++ ([]))) (kX1_doubt l D c1 c2 c3 o la sa r q dy li so sp L K Dm S lo hi su db ((fun _ _ => 0)) hok) (cwV 0 C.2.2.2.2.1 gX1_isSame_X1_doubt rfl rfl rfl (by decide +kernel) ⟨Nat.le_of_ble_eq_true rfl, Nat.le_of_ble_eq_true rfl⟩) 0 (ci := 1) rfl rfl rfl dX1_isSame_505 rfl rfl (Nat.le_of_ble_eq_true rfl) ⟨(by show _ ≤ 60; omega), (by show _ ≤ 700; omega)⟩ (fun u4_ hu4_ => ?_)
          refine J.sub (ws' := wG h c1 c2 K Dm L lo hi su db S dy li so sp tu ah (wg L lo hi su db (wg L lo hi su db (wg L lo hi su db N S) S) S) ++ (gO o la sa dy li so sp ++ (gR c2 la L.toNat r ++ (gR c2 sa S.toNat q ++ (gB c1 r L.toNat 2 (fL K Dm) ++ (gB c1 q S.toNat 4 (fS lo hi su db) ++ (gA c1 q1_ 5 F1 ++ ([])))))))) (rest := []) (perm_of_count (fun cnt h1_ h0_ => by simp only [wU, wS, wGS, h1_, h0_] <;> omega)) ?_
          have e508 : dNow (wg L lo hi su db (wg L lo hi su db (wg L lo hi su db N S) S) S) L = dNow (wz L lo hi su db S) L := eqL_dNow (wz_eq hok _)
          have e5080 := dNow_in hL0 hL hB
          have e5081 : dNow (wg L lo hi su db (fun _ _ => 0) S) L = dNow (wz L lo hi su db S) L := rfl
          refine j_icmp_ne (pc := 508) C 528 dX1_isSame_508 (by decide) ⟨by omega, by omega⟩ ⟨by omega, by omega⟩ (fun c_508 => absurd c_508 (by omega)) (fun c_508 => ?_)
          refine j_iload_n (pc := 511) C dX1_isSame_511 2 rfl ?_
          refine j_if_eq (pc := 512) C 524 dX1_isSame_512 (by decide) ⟨by omega, by omega⟩ (fun c_512 => ?_) (fun c_512 => ?_)
          · skip
            refine j_iconst (pc := 524) C dX1_isSame_524 ?_
            refine j_goto (pc := 525) C 529 dX1_isSame_525 (by decide) ?_
            refine J.sub (ws' := []) (rest := wG h c1 c2 K Dm L lo hi su db S dy li so sp tu ah (wg L lo hi su db (wg L lo hi su db (wg L lo hi su db N S) S) S) ++ (gO o la sa dy li so sp ++ (gR c2 la L.toNat r ++ (gR c2 sa S.toNat q ++ (gB c1 r L.toNat 2 (fL K Dm) ++ (gB c1 q S.toNat 4 (fS lo hi su db) ++ (gA c1 q1_ 5 F1))))))) (perm_of_count (fun cnt h1_ h0_ => by simp only [wU, wS, wGS, h1_, h0_] <;> omega)) ?_
            exact j_zretE (pc := 529) C hr dX1_isSame_529 rfl () trivial (by rfl) (by rfl) (by omega) (by omega)
          · skip
            refine j_aload_n (pc := 515) C dX1_isSame_515 1 rfl ?_
            refine j_callPI (pc := 516) C (As := []) (rest := []) (wr := gO o la sa dy li so sp ++ (gR c2 la L.toNat r ++ (gR c2 sa S.toNat q ++ (gB c1 r L.toNat 2 (fL K Dm) ++ (gB c1 q S.toNat 4 (fS lo hi su db) ++ (gA c1 q1_ 5 F1 ++ ([]))))))) (kX0_worstLayer l D h c1 c2 c3 K Dm L lo hi su db S dy li so sp tu ah (wg L lo hi su db (wg L lo hi su db (wg L lo hi su db N S) S) S)  hok (by omega)) (cwV 0 C.2.2.2.2.1 gX1_isSame_X0_worstLayer rfl rfl rfl (by decide +kernel) ⟨Nat.le_of_ble_eq_true rfl, Nat.le_of_ble_eq_true rfl⟩) 0 (ci := 0) rfl rfl rfl dX1_isSame_516 rfl rfl (Nat.le_of_ble_eq_true rfl) ⟨(by show _ ≤ 60; omega), (by show _ ≤ 700; omega)⟩ ?_
            refine j_iload (pc := 519) C dX1_isSame_519 6 rfl ?_
            have e521 := eqL_ag (by omega) (wz_eq hok ((wg L lo hi su db (wg L lo hi su db (wg L lo hi su db N S) S) S)))
            have e522 := WI_ag (by omega) hWI
            have e523 := hWI.rng (Int.le_refl 0) hL hG
            have e524 : ag (fun x y => decide ((wg L lo hi su db (wg L lo hi su db (wg L lo hi su db (wg L lo hi su db N S) S) S) S) y (y + 1) < (wg L lo hi su db (wg L lo hi su db (wg L lo hi su db (wg L lo hi su db N S) S) S) S) x (x + 1))) L = w9 := e521.trans e522
            refine j_icmp_ne (pc := 521) C 528 dX1_isSame_521 (by decide) ⟨by omega, by omega⟩ ⟨by omega, by omega⟩ (fun c_521 => absurd c_521 (by omega)) (fun c_521 => ?_)
            refine j_iconst (pc := 524) C dX1_isSame_524 ?_
            refine j_goto (pc := 525) C 529 dX1_isSame_525 (by decide) ?_
            refine J.sub (ws' := []) (rest := wG h c1 c2 K Dm L lo hi su db S dy li so sp tu ah (wg L lo hi su db (wg L lo hi su db (wg L lo hi su db (wg L lo hi su db N S) S) S) S) ++ (gO o la sa dy li so sp ++ (gR c2 la L.toNat r ++ (gR c2 sa S.toNat q ++ (gB c1 r L.toNat 2 (fL K Dm) ++ (gB c1 q S.toNat 4 (fS lo hi su db) ++ (gA c1 q1_ 5 F1))))))) (perm_of_count (fun cnt h1_ h0_ => by simp only [wU, wS, wGS, h1_, h0_] <;> omega)) ?_
            exact j_zretE (pc := 529) C hr dX1_isSame_529 rfl () trivial (by rfl) (by rfl) (by omega) (by omega)
  · intro kj_95
    try dsimp only at kj_95 ⊢
    refine j_iload_n (pc := 74) C dX1_isSame_74 2 rfl ?_
    refine j_if_ne (pc := 75) C 82 dX1_isSame_75 (by decide) ⟨by omega, by omega⟩ (fun c_75 => ?_) (fun c_75 => ?_)
    · skip
      refine j_aload_n (pc := 82) C dX1_isSame_82 0 rfl ?_
      refine j_iconst (pc := 83) C dX1_isSame_83 ?_
      refine j_iload_n (pc := 84) C dX1_isSame_84 2 rfl ?_
      refine j_iconst (pc := 85) C dX1_isSame_85 ?_
      refine j_isub (pc := 86) C dX1_isSame_86 ?_
      refine J.perm (ws' := wS c1 c2 o la sa r q dy li so sp L K Dm S lo hi su db ++ (wG h c1 c2 K Dm L lo hi su db S dy li so sp tu ah M ++ ([]))) (perm_of_count (fun cnt h1_ h0_ => by simp only [wU, wS, wGS, h1_, h0_] <;> omega)) ?_
      refine j_callPI (pc := 87) C (As := [.int (zI 0), .int (zI (L - 1))]) (rest := [.double (if L = 0 then FP.dconst0 else FP.ddiv (FP.i2d (zI (zs Dm 0 (L - 1 + 1)))) (FP.i2d (zI L)))]) (wr := wG h c1 c2 K Dm L lo hi su db S dy li so sp tu ah M ++ ([])) (kX1_added l D c1 c2 c3 o la sa r q dy li so sp L K Dm S lo hi su db 0 (L - 1) (by omega) (by omega) (by omega) (by omega)) (cwV 2 C.2.2.2.2.1 gX1_isSame_X1_added rfl rfl rfl (by decide +kernel) ⟨Nat.le_of_ble_eq_true rfl, Nat.le_of_ble_eq_true rfl⟩) 0 (ci := 1) rfl rfl rfl dX1_isSame_87 rfl rfl (Nat.le_of_ble_eq_true rfl) ⟨(by show _ ≤ 60; omega), (by show _ ≤ 700; omega)⟩ ?_
      refine J.sub (ws' := wG h c1 c2 K Dm L lo hi su db S dy li so sp tu ah M ++ (gO o la sa dy li so sp ++ (gR c2 la L.toNat r ++ (gR c2 sa S.toNat q ++ (gB c1 r L.toNat 2 (fL K Dm) ++ (gB c1 q S.toNat 4 (fS lo hi su db) ++ ([]))))))) (rest := []) (perm_of_count (fun cnt h1_ h0_ => by simp only [wU, wS, wGS, h1_, h0_] <;> omega)) ?_
      refine j_i2d (pc := 90) C dX1_isSame_90 ?_
      refine j_iload_n (pc := 91) C dX1_isSame_91 2 rfl ?_
      refine j_i2d (pc := 92) C dX1_isSame_92 ?_
      refine j_ddiv (pc := 93) C dX1_isSame_93 (no_nan (a := zs Dm 0 ((L - 1) + 1)) (by rw [show (L - 1) + 1 = L by omega]; omega) (by rw [show (L - 1) + 1 = L by omega]; omega) (by omega) (by omega)) ?_
      refine j_dcmp0 (pc := 94) C (by rw [if_neg c_75]; exact dcmp_mean (a := zs Dm 0 ((L - 1) + 1)) (by rw [show (L - 1) + 1 = L by omega]; omega) (by rw [show (L - 1) + 1 = L by omega]; omega) (by omega) (by omega)) dX1_isSame_94 ?_
      exact J.widen (by omega) (by omega) (J.cast (kj_95 () trivial) (by rfl) (by rfl) (by rfl))
    · skip
      refine j_dconst0 (pc := 78) C dX1_isSame_78 ?_
      refine j_goto (pc := 79) C 94 dX1_isSame_79 (by decide) ?_
      refine j_dcmp0 (pc := 94) C (by rw [if_pos c_75]; exact dcmp_0) dX1_isSame_94 ?_
      exact J.widen (by omega) (by omega) (J.cast (kj_95 () trivial) (by rfl) (by rfl) (by rfl))
