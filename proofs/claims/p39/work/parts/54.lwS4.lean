/-! ===== the law: its body ===== -/
section LW
variable {p : Program} {l : Launch} {e : Env} {s : State} {m : MethodId} {args : Array Value} {below : List Frame} {meth : Method} {c : Code} {D : va_G} {c1 c2 c3 : ClassId} {A : Nat → Prop} {Q : State → Prop}
set_option maxHeartbeats 8000000 in
set_option maxRecDepth 100000 in
theorem lwS4 (C : GC p s m args meth c cL_law 19 RL wsL_law D (tyS c1 c2 c3) A) (ho : va_AOA .int s) (o b : Nat) (h : Nat → Nat) (K Dm : Int → Int) (L : Int) (lo hi su db : Int → Int) (S dy li so sp : Int) (tu ah : Int → Int) (M : Int → Int → Int) (la sa : Nat) (r q : Nat → Nat) (tm x : Int) (k0 s0 : Nat) (t : Int) (N : Int → Int → Int) (q1 q2 : Nat) (r1 r2 : Nat → Nat) (lw hg : Int) (hI : IU t (K, Dm, L, lo, hi, su, db, S, dy, li, so, sp, tu, ah, M, la, sa, r, q)) (t0 : 0 ≤ t) (t1 : t < 500) (hk0 : k0 ≤ 100000) (hs0 : s0 ≤ 1000000) (k : ∀ (lo1 hi1 su1 db1 : Int → Int) (N : Int → Int → Int), eqI S lo lo1 → eqI S hi hi1 → eqI S su su1 → eqI S db db1 → J p l e room_1 s m args below meth c 19 D A (k0) (s0) Q (wG h c1 c2 K Dm L lo1 hi1 su1 db1 S dy li so sp tu ah N ++ (gO o la sa dy li so sp ++ (gR c2 la L.toNat r ++ (gR c2 sa S.toNat q ++ (gB c1 r L.toNat 2 (fL K Dm) ++ (gB c1 q S.toNat 4 (fS lo1 hi1 su1 db1) ++ ([]))))))) [(0, .ref b), (1, .ref (h 0)), (2, .ref o), (3, .int (zI tm)), (4, .int (zI x)), (7, .int (zI L)), (8, .int (zI (dNow (wz L lo hi su db S) L))), (9, .int (zI lw)), (10, .int (zI hg))] 796 []) : J p l e room_1 s m args below meth c 19 D A (k0) (s0) Q (wG h c1 c2 K Dm L lo hi su db S dy li so sp tu ah N ++ (gR c2 q1 L.toNat r1 ++ (gB c1 r1 L.toNat L.toNat (gl (wz L lo hi su db S)) ++ (gR c2 q2 L.toNat r2 ++ (gB c1 r2 L.toNat L.toNat (gm (wz L lo hi su db S)) ++ (gO o la sa dy li so sp ++ (gR c2 la L.toNat r ++ (gR c2 sa S.toNat q ++ (gB c1 r L.toNat 2 (fL K Dm) ++ (gB c1 q S.toNat 4 (fS lo hi su db) ++ ([]))))))))))) [(0, .ref b), (1, .ref (h 0)), (2, .ref o), (3, .int (zI tm)), (4, .int (zI x)), (5, .long (dgW K Dm L lo hi su db S dy li so sp (wz L lo hi su db S))), (7, .int (zI L)), (8, .int (zI (dNow (wz L lo hi su db S) L))), (9, .int (zI lw)), (10, .int (zI hg)), (11, .ref q1), (12, .ref q2)] 584 [] := by
  obtain ⟨hR, hdy, hso, hsp⟩ := id hI
  have hok := hR.1
  obtain ⟨⟨hL0, hL⟩, ⟨hS0, hS⟩, hf, hs⟩ := id hok
  have hkK := hR.2.2.1
  have hli := hR.2.2.2.1
  have hB := wz_B hok
  have hT := wz_T hok
  have hE9 := wz_E hok
  have hW9 := wz_ok hok
  have dn9 := dNow_in hL0 hL hB
  refine j_iload (pc := 584) C dL_law_584 6 rfl ?_
  refine j_if_le (pc := 586) C 796 dL_law_586 (by decide) ⟨by omega, by omega⟩ (fun c_586 => ?_) (fun c_586 => ?_)
  · skip
    refine J.sub (ws' := wG h c1 c2 K Dm L lo hi su db S dy li so sp tu ah N ++ (gO o la sa dy li so sp ++ (gR c2 la L.toNat r ++ (gR c2 sa S.toNat q ++ (gB c1 r L.toNat 2 (fL K Dm) ++ (gB c1 q S.toNat 4 (fS lo hi su db) ++ ([]))))))) (rest := gR c2 q1 L.toNat r1 ++ (gB c1 r1 L.toNat L.toNat (gl (wz L lo hi su db S)) ++ (gR c2 q2 L.toNat r2 ++ (gB c1 r2 L.toNat L.toNat (gm (wz L lo hi su db S)))))) (perm_of_count (fun cnt h1_ h0_ => by simp only [wU, wS, wGS, h1_, h0_] <;> omega)) ?_
    refine J.pick (lv' := [(0, .ref b), (1, .ref (h 0)), (2, .ref o), (3, .int (zI tm)), (4, .int (zI x)), (7, .int (zI L)), (8, .int (zI (dNow (wz L lo hi su db S) L))), (9, .int (zI lw)), (10, .int (zI hg))]) [0, 1, 2, 3, 4, 6, 7, 8, 9] rfl ?_
    exact J.widen (by omega) (by omega) (J.cast (k lo hi su db N eqI.rf eqI.rf eqI.rf eqI.rf) rfl rfl rfl)
  · skip
    refine j_aload_n (pc := 589) C dL_law_589 1 rfl ?_
    refine j_callPI (pc := 590) C (As := []) (rest := []) (wr := gR c2 q1 L.toNat r1 ++ (gB c1 r1 L.toNat L.toNat (gl (wz L lo hi su db S)) ++ (gR c2 q2 L.toNat r2 ++ (gB c1 r2 L.toNat L.toNat (gm (wz L lo hi su db S)) ++ (gO o la sa dy li so sp ++ (gR c2 la L.toNat r ++ (gR c2 sa S.toNat q ++ (gB c1 r L.toNat 2 (fL K Dm) ++ (gB c1 q S.toNat 4 (fS lo hi su db) ++ ([])))))))))) (kX0_samples l D h c1 c2 c3 K Dm L lo hi su db S dy li so sp tu ah N  ) (cwV 0 C.2.2.2.2.1 gL_law_X0_samples rfl rfl rfl (by decide +kernel) ⟨Nat.le_of_ble_eq_true rfl, Nat.le_of_ble_eq_true rfl⟩) 0 (ci := 0) rfl rfl rfl dL_law_590 rfl rfl (Nat.le_of_ble_eq_true rfl) ⟨(by show _ ≤ 600172; omega), (by show _ ≤ 7300668; omega)⟩ ?_
    refine j_bipush (pc := 593) C dL_law_593 (by decide +kernel) ?_
    refine j_icmp_ge (pc := 595) C 796 dL_law_595 (by decide) ⟨by omega, by omega⟩ ⟨by omega, by omega⟩ (fun c_595 => ?_) (fun c_595 => ?_)
    · skip
      refine J.sub (ws' := wG h c1 c2 K Dm L lo hi su db S dy li so sp tu ah N ++ (gO o la sa dy li so sp ++ (gR c2 la L.toNat r ++ (gR c2 sa S.toNat q ++ (gB c1 r L.toNat 2 (fL K Dm) ++ (gB c1 q S.toNat 4 (fS lo hi su db) ++ ([]))))))) (rest := gR c2 q1 L.toNat r1 ++ (gB c1 r1 L.toNat L.toNat (gl (wz L lo hi su db S)) ++ (gR c2 q2 L.toNat r2 ++ (gB c1 r2 L.toNat L.toNat (gm (wz L lo hi su db S)))))) (perm_of_count (fun cnt h1_ h0_ => by simp only [wU, wS, wGS, h1_, h0_] <;> omega)) ?_
      refine J.pick (lv' := [(0, .ref b), (1, .ref (h 0)), (2, .ref o), (3, .int (zI tm)), (4, .int (zI x)), (7, .int (zI L)), (8, .int (zI (dNow (wz L lo hi su db S) L))), (9, .int (zI lw)), (10, .int (zI hg))]) [0, 1, 2, 3, 4, 6, 7, 8, 9] rfl ?_
      exact J.widen (by omega) (by omega) (J.cast (k lo hi su db N eqI.rf eqI.rf eqI.rf eqI.rf) rfl rfl rfl)
    · skip
      refine j_iload (pc := 598) C dL_law_598 4 rfl ?_
      refine j_iconst (pc := 600) C dL_law_600 ?_
      refine j_ishr (pc := 601) C (sh_eq x 3) dL_law_601 ?_
      refine j_iload (pc := 602) C dL_law_602 6 rfl ?_
      refine j_callSI (pc := 604) C (As := [.int (zI (sh x 3)), .int (zI L)]) (rest := []) (kL_below l D c1 c2 c3 (sh x 3) L (by omega) (by omega)) (va_cwS 2 C.2.2.2.2.1 gL_law_L_below rfl rfl rfl (by decide +kernel) ⟨Nat.le_of_ble_eq_true rfl, Nat.le_of_ble_eq_true rfl⟩) dL_law_604 rfl rfl (Nat.le_of_ble_eq_true rfl) ⟨(by show _ ≤ 600172; omega), (by show _ ≤ 7300668; omega)⟩ ?_
      have b_604 := bl_in (v := sh x 3) (n := L) (by omega)
      refine j_istore (pc := 607) C (lv' := [(0, .ref b), (1, .ref (h 0)), (2, .ref o), (3, .int (zI tm)), (4, .int (zI x)), (5, .long (dgW K Dm L lo hi su db S dy li so sp (wz L lo hi su db S))), (7, .int (zI L)), (8, .int (zI (dNow (wz L lo hi su db S) L))), (9, .int (zI lw)), (10, .int (zI hg)), (11, .ref q1), (12, .ref q2), (13, .int (zI (bl (sh x 3) L)))]) dL_law_607 (by decide) [1, 2, 3, 4, 5, 6, 7, 8, 9, 10, 11, 12, 0] rfl ?_
      obtain ⟨v5, hv5, hv5p⟩ : ∃ v, v = bl (sh x 3) L ∧ 0 ≤ v ∧ v < L := ⟨_, rfl, ⟨by omega, by omega⟩⟩
      refine J.cast (ws' := wG h c1 c2 K Dm L lo hi su db S dy li so sp tu ah N ++ (gR c2 q1 L.toNat r1 ++ (gB c1 r1 L.toNat L.toNat (gl (wz L lo hi su db S)) ++ (gR c2 q2 L.toNat r2 ++ (gB c1 r2 L.toNat L.toNat (gm (wz L lo hi su db S)) ++ (gO o la sa dy li so sp ++ (gR c2 la L.toNat r ++ (gR c2 sa S.toNat q ++ (gB c1 r L.toNat 2 (fL K Dm) ++ (gB c1 q S.toNat 4 (fS lo hi su db) ++ ([]))))))))))) (lv' := [(0, .ref b), (1, .ref (h 0)), (2, .ref o), (3, .int (zI tm)), (4, .int (zI x)), (5, .long (dgW K Dm L lo hi su db S dy li so sp (wz L lo hi su db S))), (7, .int (zI L)), (8, .int (zI (dNow (wz L lo hi su db S) L))), (9, .int (zI lw)), (10, .int (zI hg)), (11, .ref q1), (12, .ref q2), (13, .int (zI v5))]) (st' := []) ?_ (by rfl) (by rw [hv5]) (by rfl)
      refine j_iload (pc := 609) C dL_law_609 12 rfl ?_
      refine j_iload (pc := 611) C dL_law_611 4 rfl ?_
      refine j_iconst (pc := 613) C dL_law_613 ?_
      refine j_ishr (pc := 614) C (sh_eq x 5) dL_law_614 ?_
      refine j_iload (pc := 615) C dL_law_615 6 rfl ?_
      refine j_iload (pc := 617) C dL_law_617 12 rfl ?_
      refine j_isub (pc := 619) C dL_law_619 ?_
      refine j_callSI (pc := 620) C (As := [.int (zI (sh x 5)), .int (zI (L - v5))]) (rest := [.int (zI v5)]) (kL_below l D c1 c2 c3 (sh x 5) (L - v5) (by omega) (by omega)) (va_cwS 2 C.2.2.2.2.1 gL_law_L_below rfl rfl rfl (by decide +kernel) ⟨Nat.le_of_ble_eq_true rfl, Nat.le_of_ble_eq_true rfl⟩) dL_law_620 rfl rfl (Nat.le_of_ble_eq_true rfl) ⟨(by show _ ≤ 600172; omega), (by show _ ≤ 7300668; omega)⟩ ?_
      have b_620 := bl_in (v := sh x 5) (n := L - v5) (by omega)
      refine j_iadd (pc := 623) C dL_law_623 ?_
      refine j_istore (pc := 624) C (lv' := [(0, .ref b), (1, .ref (h 0)), (2, .ref o), (3, .int (zI tm)), (4, .int (zI x)), (5, .long (dgW K Dm L lo hi su db S dy li so sp (wz L lo hi su db S))), (7, .int (zI L)), (8, .int (zI (dNow (wz L lo hi su db S) L))), (9, .int (zI lw)), (10, .int (zI hg)), (11, .ref q1), (12, .ref q2), (13, .int (zI v5)), (14, .int (zI (v5 + (bl (sh x 5) (L - v5)))))]) dL_law_624 (by decide) [1, 2, 3, 4, 5, 6, 7, 8, 9, 10, 11, 12, 13, 0] rfl ?_
      obtain ⟨v6, hv6, hv6p⟩ : ∃ v, v = v5 + (bl (sh x 5) (L - v5)) ∧ v5 ≤ v ∧ v < L := ⟨_, rfl, ⟨by omega, by omega⟩⟩
      refine J.cast (ws' := wG h c1 c2 K Dm L lo hi su db S dy li so sp tu ah N ++ (gR c2 q1 L.toNat r1 ++ (gB c1 r1 L.toNat L.toNat (gl (wz L lo hi su db S)) ++ (gR c2 q2 L.toNat r2 ++ (gB c1 r2 L.toNat L.toNat (gm (wz L lo hi su db S)) ++ (gO o la sa dy li so sp ++ (gR c2 la L.toNat r ++ (gR c2 sa S.toNat q ++ (gB c1 r L.toNat 2 (fL K Dm) ++ (gB c1 q S.toNat 4 (fS lo hi su db) ++ ([]))))))))))) (lv' := [(0, .ref b), (1, .ref (h 0)), (2, .ref o), (3, .int (zI tm)), (4, .int (zI x)), (5, .long (dgW K Dm L lo hi su db S dy li so sp (wz L lo hi su db S))), (7, .int (zI L)), (8, .int (zI (dNow (wz L lo hi su db S) L))), (9, .int (zI lw)), (10, .int (zI hg)), (11, .ref q1), (12, .ref q2), (13, .int (zI v5)), (14, .int (zI v6))]) (st' := []) ?_ (by rfl) (by rw [hv6]) (by rfl)
      have hok2 := (hR.draw t0 v5 v6 (by omega) (by omega) (by omega) (by omega)).1
      have td9 := wz_told_d hok v5 v6 (by omega) (by omega) (by omega)
      have ts9 := wz_told_s hok v5 v6 (by omega) (by omega) (by omega)
      have kt9 := known_told hok v5 v6 (by omega) (by omega) (by omega)
      have hB2 := wz_B hok2
      have di9 := dIf_le (wz L lo hi su db S) Dm L v5 v6 hL0
      have dj9 := dIf_in hL0 hL hf hB v5 v6 (by omega) (by omega) (by omega)
      have zb9 := zs_bnd hf v5 (v6 + 1) (by omega) (by omega) (by omega)
      have gl9 := gl_at (W := (wz L lo hi su db S)) (p := v5) (t := v6) (by omega)
      have gm9 := gm_at (W := (wz L lo hi su db S)) (p := v5) (t := v6) (by omega)
      have w1 := (hW9.1 v5 (v6 + 1) (by omega) (by omega) (by omega) (by omega)).1
      have w2 := (hW9.1 (v6 + 1) v5 (by omega) (by omega) (by omega) (by omega)).1
      have z1 := zs_cat Dm 0 v5 (v6 + 1) (by omega) (by omega)
      have bb1 := hB v5 (v6 + 1) (by omega) (by omega) (by omega) (by omega)
      have bb2 := hB (v6 + 1) v5 (by omega) (by omega) (by omega) (by omega)
      refine j_aload_n (pc := 626) C dL_law_626 1 rfl ?_
      refine j_iload (pc := 627) C dL_law_627 12 rfl ?_
      refine j_iload (pc := 629) C dL_law_629 13 rfl ?_
      refine j_callPI (pc := 631) C (As := [.int (zI v5), .int (zI v6)]) (rest := []) (wr := gR c2 q1 L.toNat r1 ++ (gB c1 r1 L.toNat L.toNat (gl (wz L lo hi su db S)) ++ (gR c2 q2 L.toNat r2 ++ (gB c1 r2 L.toNat L.toNat (gm (wz L lo hi su db S)) ++ (gO o la sa dy li so sp ++ (gR c2 la L.toNat r ++ (gR c2 sa S.toNat q ++ (gB c1 r L.toNat 2 (fL K Dm) ++ (gB c1 q S.toNat 4 (fS lo hi su db) ++ ([])))))))))) (kX0_doubtBehind l D h c1 c2 c3 K Dm L lo hi su db S dy li so sp tu ah N v5 v6 hok (by omega) (by omega) (by omega)) (cwV 2 C.2.2.2.2.1 gL_law_X0_doubtBehind rfl rfl rfl (by decide +kernel) ⟨Nat.le_of_ble_eq_true rfl, Nat.le_of_ble_eq_true rfl⟩) 0 (ci := 0) rfl rfl rfl dL_law_631 rfl rfl (Nat.le_of_ble_eq_true rfl) ⟨(by show _ ≤ 600172; omega), (by show _ ≤ 7300668; omega)⟩ ?_
      have eN1_ := wz_eq hok N
      generalize wg L lo hi su db N S = N1_ at eN1_ ⊢
      refine j_istore (pc := 634) C (lv' := [(0, .ref b), (1, .ref (h 0)), (2, .ref o), (3, .int (zI tm)), (4, .int (zI x)), (5, .long (dgW K Dm L lo hi su db S dy li so sp (wz L lo hi su db S))), (7, .int (zI L)), (8, .int (zI (dNow (wz L lo hi su db S) L))), (9, .int (zI lw)), (10, .int (zI hg)), (11, .ref q1), (12, .ref q2), (13, .int (zI v5)), (14, .int (zI v6)), (15, .int (zI (dIf N1_ Dm L v5 v6)))]) dL_law_634 (by decide) [1, 2, 3, 4, 5, 6, 7, 8, 9, 10, 11, 12, 13, 14, 0] rfl ?_
      have f636 := eqL_dIf eN1_ Dm (a := v5) (b := v6) (by omega) (by omega) (by omega)
      refine j_aload_n (pc := 636) C dL_law_636 1 rfl ?_
      refine j_callPI (pc := 637) C (As := []) (rest := []) (wr := gR c2 q1 L.toNat r1 ++ (gB c1 r1 L.toNat L.toNat (gl (wz L lo hi su db S)) ++ (gR c2 q2 L.toNat r2 ++ (gB c1 r2 L.toNat L.toNat (gm (wz L lo hi su db S)) ++ (gO o la sa dy li so sp ++ (gR c2 la L.toNat r ++ (gR c2 sa S.toNat q ++ (gB c1 r L.toNat 2 (fL K Dm) ++ (gB c1 q S.toNat 4 (fS lo hi su db) ++ ([])))))))))) (kX0_bestToLookAt l D h c1 c2 c3 K Dm L lo hi su db S dy li so sp tu ah N1_  hok (by omega)) (cwV 0 C.2.2.2.2.1 gL_law_X0_bestToLookAt rfl rfl rfl (by decide +kernel) ⟨Nat.le_of_ble_eq_true rfl, Nat.le_of_ble_eq_true rfl⟩) 0 (ci := 0) rfl rfl rfl dL_law_637 rfl rfl (Nat.le_of_ble_eq_true rfl) ⟨(by show _ ≤ 600172; omega), (by show _ ≤ 7300668; omega)⟩ ?_
      have eN2_ := wz_eq hok N1_
      generalize wg L lo hi su db N1_ S = N2_ at eN2_ ⊢
      refine j_istore (pc := 640) C (lv' := [(0, .ref b), (1, .ref (h 0)), (2, .ref o), (3, .int (zI tm)), (4, .int (zI x)), (5, .long (dgW K Dm L lo hi su db S dy li so sp (wz L lo hi su db S))), (7, .int (zI L)), (8, .int (zI (dNow (wz L lo hi su db S) L))), (9, .int (zI lw)), (10, .int (zI hg)), (11, .ref q1), (12, .ref q2), (13, .int (zI v5)), (14, .int (zI v6)), (15, .int (zI (dIf N1_ Dm L v5 v6))), (16, .int (zI (ag (fun x y => decide (dIf N2_ Dm L x x < dIf N2_ Dm L y y)) L)))]) dL_law_640 (by decide) [1, 2, 3, 4, 5, 6, 7, 8, 9, 10, 11, 12, 13, 14, 15, 0] rfl ?_
      obtain ⟨bst, hbst, hbstp⟩ : ∃ v, v = ag (fun x y => decide (dIf N2_ Dm L x x < dIf N2_ Dm L y y)) L ∧ (0 ≤ v ∧ v < L) ∧ ∀ j, 0 ≤ j → j < L → dIf N2_ Dm L v v ≤ dIf N2_ Dm L j j := ⟨_, rfl, best_le (fun z => dIf N2_ Dm L z z) (by omega)⟩
      refine J.cast (ws' := wG h c1 c2 K Dm L lo hi su db S dy li so sp tu ah N2_ ++ (gR c2 q1 L.toNat r1 ++ (gB c1 r1 L.toNat L.toNat (gl (wz L lo hi su db S)) ++ (gR c2 q2 L.toNat r2 ++ (gB c1 r2 L.toNat L.toNat (gm (wz L lo hi su db S)) ++ (gO o la sa dy li so sp ++ (gR c2 la L.toNat r ++ (gR c2 sa S.toNat q ++ (gB c1 r L.toNat 2 (fL K Dm) ++ (gB c1 q S.toNat 4 (fS lo hi su db) ++ ([]))))))))))) (lv' := [(0, .ref b), (1, .ref (h 0)), (2, .ref o), (3, .int (zI tm)), (4, .int (zI x)), (5, .long (dgW K Dm L lo hi su db S dy li so sp (wz L lo hi su db S))), (7, .int (zI L)), (8, .int (zI (dNow (wz L lo hi su db S) L))), (9, .int (zI lw)), (10, .int (zI hg)), (11, .ref q1), (12, .ref q2), (13, .int (zI v5)), (14, .int (zI v6)), (15, .int (zI (dIf N1_ Dm L v5 v6))), (16, .int (zI bst))]) (st' := []) ?_ (by rfl) (by rw [hbst]) (by rfl)
      refine j_aload_n (pc := 642) C dL_law_642 1 rfl ?_
      refine j_callPL (pc := 643) C (As := []) (rest := []) (wr := gR c2 q1 L.toNat r1 ++ (gB c1 r1 L.toNat L.toNat (gl (wz L lo hi su db S)) ++ (gR c2 q2 L.toNat r2 ++ (gB c1 r2 L.toNat L.toNat (gm (wz L lo hi su db S)) ++ (gO o la sa dy li so sp ++ (gR c2 la L.toNat r ++ (gR c2 sa S.toNat q ++ (gB c1 r L.toNat 2 (fL K Dm) ++ (gB c1 q S.toNat 4 (fS lo hi su db) ++ ([])))))))))) (kX0_digest l D h c1 c2 c3 K Dm L lo hi su db S dy li so sp tu ah N2_  hok (by omega) (by omega)) (cwV 0 C.2.2.2.2.1 gL_law_X0_digest rfl rfl rfl (by decide +kernel) ⟨Nat.le_of_ble_eq_true rfl, Nat.le_of_ble_eq_true rfl⟩) 0 (ci := 0) rfl rfl rfl dL_law_643 rfl rfl (Nat.le_of_ble_eq_true rfl) ⟨(by show _ ≤ 600172; omega), (by show _ ≤ 7300668; omega)⟩ ?_
      refine J.cast (ws' := wG h c1 c2 K Dm L lo hi su db S dy li so sp tu ah (wg L lo hi su db N2_ S) ++ (gR c2 q1 L.toNat r1 ++ (gB c1 r1 L.toNat L.toNat (gl (wz L lo hi su db S)) ++ (gR c2 q2 L.toNat r2 ++ (gB c1 r2 L.toNat L.toNat (gm (wz L lo hi su db S)) ++ (gO o la sa dy li so sp ++ (gR c2 la L.toNat r ++ (gR c2 sa S.toNat q ++ (gB c1 r L.toNat 2 (fL K Dm) ++ (gB c1 q S.toNat 4 (fS lo hi su db) ++ ([]))))))))))) (lv' := [(0, .ref b), (1, .ref (h 0)), (2, .ref o), (3, .int (zI tm)), (4, .int (zI x)), (5, .long (dgW K Dm L lo hi su db S dy li so sp (wz L lo hi su db S))), (7, .int (zI L)), (8, .int (zI (dNow (wz L lo hi su db S) L))), (9, .int (zI lw)), (10, .int (zI hg)), (11, .ref q1), (12, .ref q2), (13, .int (zI v5)), (14, .int (zI v6)), (15, .int (zI (dIf N1_ Dm L v5 v6))), (16, .int (zI bst))]) (st' := [.long (dgW K Dm L lo hi su db S dy li so sp (wz L lo hi su db S))]) ?_ (by rfl) (by rfl) (by exact congrArg (fun v => [Value.long v]) (dgW_eq eqI.rf eqI.rf eqI.rf eqI.rf (wz_eq hok _)))
      have eN3_ := wz_eq hok N2_
      generalize wg L lo hi su db N2_ S = N3_ at eN3_ ⊢
      refine j_lload (pc := 646) C dL_law_646 5 rfl ?_
      refine j_lcmp0 (pc := 648) C rfl dL_law_648 ?_
      refine j_if_ne (pc := 649) C 678 dL_law_649 (by decide) ⟨by omega, by omega⟩ (fun c_649 => absurd c_649 (by omega)) (fun c_649 => ?_)
      refine j_iload (pc := 652) C dL_law_652 14 rfl ?_
      refine j_iload (pc := 654) C dL_law_654 7 rfl ?_
      refine j_icmp_gt (pc := 656) C 678 dL_law_656 (by decide) ⟨by omega, by omega⟩ ⟨by omega, by omega⟩ (fun c_656 => absurd c_656 (by omega)) (fun c_656 => ?_)
      refine j_aload_n (pc := 659) C dL_law_659 1 rfl ?_
      refine j_iload (pc := 660) C dL_law_660 15 rfl ?_
      refine j_iload (pc := 662) C dL_law_662 15 rfl ?_
      refine j_callPI (pc := 664) C (As := [.int (zI bst), .int (zI bst)]) (rest := []) (wr := gR c2 q1 L.toNat r1 ++ (gB c1 r1 L.toNat L.toNat (gl (wz L lo hi su db S)) ++ (gR c2 q2 L.toNat r2 ++ (gB c1 r2 L.toNat L.toNat (gm (wz L lo hi su db S)) ++ (gO o la sa dy li so sp ++ (gR c2 la L.toNat r ++ (gR c2 sa S.toNat q ++ (gB c1 r L.toNat 2 (fL K Dm) ++ (gB c1 q S.toNat 4 (fS lo hi su db) ++ ([])))))))))) (kX0_doubtBehind l D h c1 c2 c3 K Dm L lo hi su db S dy li so sp tu ah N3_ bst bst hok (by omega) (by omega) (by omega)) (cwV 2 C.2.2.2.2.1 gL_law_X0_doubtBehind rfl rfl rfl (by decide +kernel) ⟨Nat.le_of_ble_eq_true rfl, Nat.le_of_ble_eq_true rfl⟩) 0 (ci := 0) rfl rfl rfl dL_law_664 rfl rfl (Nat.le_of_ble_eq_true rfl) ⟨(by show _ ≤ 600172; omega), (by show _ ≤ 7300668; omega)⟩ ?_
      have eN4_ := wz_eq hok N3_
      generalize wg L lo hi su db N3_ S = N4_ at eN4_ ⊢
      refine j_aload_n (pc := 667) C dL_law_667 1 rfl ?_
      refine j_iload (pc := 668) C dL_law_668 12 rfl ?_
      refine j_iload (pc := 670) C dL_law_670 12 rfl ?_
      refine j_callPI (pc := 672) C (As := [.int (zI v5), .int (zI v5)]) (rest := [.int (zI (dIf N4_ Dm L bst bst))]) (wr := gR c2 q1 L.toNat r1 ++ (gB c1 r1 L.toNat L.toNat (gl (wz L lo hi su db S)) ++ (gR c2 q2 L.toNat r2 ++ (gB c1 r2 L.toNat L.toNat (gm (wz L lo hi su db S)) ++ (gO o la sa dy li so sp ++ (gR c2 la L.toNat r ++ (gR c2 sa S.toNat q ++ (gB c1 r L.toNat 2 (fL K Dm) ++ (gB c1 q S.toNat 4 (fS lo hi su db) ++ ([])))))))))) (kX0_doubtBehind l D h c1 c2 c3 K Dm L lo hi su db S dy li so sp tu ah N4_ v5 v5 hok (by omega) (by omega) (by omega)) (cwV 2 C.2.2.2.2.1 gL_law_X0_doubtBehind rfl rfl rfl (by decide +kernel) ⟨Nat.le_of_ble_eq_true rfl, Nat.le_of_ble_eq_true rfl⟩) 0 (ci := 0) rfl rfl rfl dL_law_672 rfl rfl (Nat.le_of_ble_eq_true rfl) ⟨(by show _ ≤ 600172; omega), (by show _ ≤ 7300668; omega)⟩ ?_
      have eN5_ := wz_eq hok N4_
      generalize wg L lo hi su db N4_ S = N5_ at eN5_ ⊢
      have f1 := eqL_dIf eN5_ Dm (a := v5) (b := v5) (by omega) (by omega) (by omega)
      have f2 := eqL_dIf eN4_ Dm (a := bst) (b := bst) (by omega) (by omega) (by omega)
      have f3 := eqL_dIf eN2_ Dm (a := v5) (b := v5) (by omega) (by omega) (by omega)
      have f4 := eqL_dIf eN2_ Dm (a := bst) (b := bst) (by omega) (by omega) (by omega)
      have f5 := hbstp.2 v5 (by omega) (by omega)
      have f6 := dIf_in hL0 hL hf hB v5 v5 (by omega) (by omega) (by omega)
      have f7 := dIf_in hL0 hL hf hB bst bst (by omega) (by omega) (by omega)
      refine j_icmp_le (pc := 675) C 680 dL_law_675 (by decide) ⟨by omega, by omega⟩ ⟨by omega, by omega⟩ (fun c_675 => ?_) (fun c_675 => absurd c_675 (by omega))
      refine j_aload_n (pc := 680) C dL_law_680 1 rfl ?_
      refine j_iload (pc := 681) C dL_law_681 12 rfl ?_
      refine j_iload (pc := 683) C dL_law_683 13 rfl ?_
      refine j_callPI (pc := 685) C (As := [.int (zI v5), .int (zI v6)]) (rest := []) (wr := gR c2 q1 L.toNat r1 ++ (gB c1 r1 L.toNat L.toNat (gl (wz L lo hi su db S)) ++ (gR c2 q2 L.toNat r2 ++ (gB c1 r2 L.toNat L.toNat (gm (wz L lo hi su db S)) ++ (gO o la sa dy li so sp ++ (gR c2 la L.toNat r ++ (gR c2 sa S.toNat q ++ (gB c1 r L.toNat 2 (fL K Dm) ++ (gB c1 q S.toNat 4 (fS lo hi su db) ++ ([])))))))))) (kX0_draw l D h c1 c2 c3 K Dm L lo hi su db S dy li so sp tu ah N5_ v5 v6 (by omega) (by omega) (by omega) (by omega) (by omega) (by omega)) (cwV 2 C.2.2.2.2.1 gL_law_X0_draw rfl rfl rfl (by decide +kernel) ⟨Nat.le_of_ble_eq_true rfl, Nat.le_of_ble_eq_true rfl⟩) 0 (ci := 0) rfl rfl rfl dL_law_685 rfl rfl (Nat.le_of_ble_eq_true rfl) ⟨(by show _ ≤ 600172; omega), (by show _ ≤ 7300668; omega)⟩ ?_
      refine j_istore (pc := 688) C (lv' := [(0, .ref b), (1, .ref (h 0)), (2, .ref o), (3, .int (zI tm)), (4, .int (zI x)), (5, .long (dgW K Dm L lo hi su db S dy li so sp (wz L lo hi su db S))), (7, .int (zI L)), (8, .int (zI (dNow (wz L lo hi su db S) L))), (9, .int (zI lw)), (10, .int (zI hg)), (11, .ref q1), (12, .ref q2), (13, .int (zI v5)), (14, .int (zI v6)), (15, .int (zI (dIf N1_ Dm L v5 v6))), (16, .int (zI bst)), (17, .int (zI (zs Dm v5 (v6 + 1))))]) dL_law_688 (by decide) [1, 2, 3, 4, 5, 6, 7, 8, 9, 10, 11, 12, 13, 14, 15, 16, 0] rfl ?_
      refine j_iload (pc := 690) C dL_law_690 16 rfl ?_
      refine j_aload (pc := 692) C dL_law_692 10 rfl ?_
      refine j_iload (pc := 694) C dL_law_694 12 rfl ?_
      refine j_aald (pc := 696) C _ 1 (g := r1) (At.r (At.l (k := 0) rfl)) rfl (by omega) (by omega) (by omega) dL_law_696 ?_
      refine j_iload (pc := 697) C dL_law_697 13 rfl ?_
      refine j_iald (pc := 699) C _ 0 (At.r (At.r (At.l (gB_at (by omega) (by omega))))) rfl (by omega) (by omega) (by omega) dL_law_699 ?_
      refine j_icmp_lt (pc := 700) C 794 dL_law_700 (by decide) ⟨by omega, by omega⟩ ⟨by omega, by omega⟩ (fun c_700 => absurd c_700 (by omega)) (fun c_700 => ?_)
      refine j_iload (pc := 703) C dL_law_703 16 rfl ?_
      refine j_aload (pc := 705) C dL_law_705 11 rfl ?_
      refine j_iload (pc := 707) C dL_law_707 12 rfl ?_
      refine j_aald (pc := 709) C _ 1 (g := r2) (At.r (At.r (At.r (At.l (k := 0) rfl)))) rfl (by omega) (by omega) (by omega) dL_law_709 ?_
      refine j_iload (pc := 710) C dL_law_710 13 rfl ?_
      refine j_iald (pc := 712) C _ 0 (At.r (At.r (At.r (At.r (At.l (gB_at (by omega) (by omega))))))) rfl (by omega) (by omega) (by omega) dL_law_712 ?_
      refine j_icmp_gt (pc := 713) C 794 dL_law_713 (by decide) ⟨by omega, by omega⟩ ⟨by omega, by omega⟩ (fun c_713 => absurd c_713 (by omega)) (fun c_713 => ?_)
      refine j_aload_n (pc := 716) C dL_law_716 1 rfl ?_
      refine j_callPI (pc := 717) C (As := []) (rest := []) (wr := gR c2 q1 L.toNat r1 ++ (gB c1 r1 L.toNat L.toNat (gl (wz L lo hi su db S)) ++ (gR c2 q2 L.toNat r2 ++ (gB c1 r2 L.toNat L.toNat (gm (wz L lo hi su db S)) ++ (gO o la sa dy li so sp ++ (gR c2 la L.toNat r ++ (gR c2 sa S.toNat q ++ (gB c1 r L.toNat 2 (fL K Dm) ++ (gB c1 q S.toNat 4 (fS lo hi su db) ++ ([])))))))))) (kX0_doubt l D h c1 c2 c3 K Dm L (upZ lo S v5) (upZ hi S v6) (upZ su S (zs Dm v5 (v6 + 1))) (upZ db S 0) (S + 1) dy li so sp tu ah N5_  hok2) (cwV 0 C.2.2.2.2.1 gL_law_X0_doubt rfl rfl rfl (by decide +kernel) ⟨Nat.le_of_ble_eq_true rfl, Nat.le_of_ble_eq_true rfl⟩) 0 (ci := 0) rfl rfl rfl dL_law_717 rfl rfl (Nat.le_of_ble_eq_true rfl) ⟨(by show _ ≤ 600172; omega), (by show _ ≤ 7300668; omega)⟩ ?_
      have eN6_ := wz_eq hok2 N5_
      generalize wg L (upZ lo S v5) (upZ hi S v6) (upZ su S (zs Dm v5 (v6 + 1))) (upZ db S 0) N5_ (S + 1) = N6_ at eN6_ ⊢
      have f720 := eqL_dNow eN6_
      refine j_iload (pc := 720) C dL_law_720 14 rfl ?_
      refine j_icmp_ne (pc := 722) C 794 dL_law_722 (by decide) ⟨by omega, by omega⟩ ⟨by omega, by omega⟩ (fun c_722 => absurd c_722 (by omega)) (fun c_722 => ?_)
      refine j_aload_n (pc := 725) C dL_law_725 1 rfl ?_
      refine j_iload (pc := 726) C dL_law_726 12 rfl ?_
      refine j_iload (pc := 728) C dL_law_728 13 rfl ?_
      refine j_callPI (pc := 730) C (As := [.int (zI v5), .int (zI v6)]) (rest := []) (wr := gR c2 q1 L.toNat r1 ++ (gB c1 r1 L.toNat L.toNat (gl (wz L lo hi su db S)) ++ (gR c2 q2 L.toNat r2 ++ (gB c1 r2 L.toNat L.toNat (gm (wz L lo hi su db S)) ++ (gO o la sa dy li so sp ++ (gR c2 la L.toNat r ++ (gR c2 sa S.toNat q ++ (gB c1 r L.toNat 2 (fL K Dm) ++ (gB c1 q S.toNat 4 (fS lo hi su db) ++ ([])))))))))) (kX0_leastSum l D h c1 c2 c3 K Dm L (upZ lo S v5) (upZ hi S v6) (upZ su S (zs Dm v5 (v6 + 1))) (upZ db S 0) (S + 1) dy li so sp tu ah N6_ v5 v6 hok2 (by omega) (by omega) (by omega)) (cwV 2 C.2.2.2.2.1 gL_law_X0_leastSum rfl rfl rfl (by decide +kernel) ⟨Nat.le_of_ble_eq_true rfl, Nat.le_of_ble_eq_true rfl⟩) 0 (ci := 0) rfl rfl rfl dL_law_730 rfl rfl (Nat.le_of_ble_eq_true rfl) ⟨(by show _ ≤ 600172; omega), (by show _ ≤ 7300668; omega)⟩ ?_
      have eN7_ := wz_eq hok2 N6_
      generalize wg L (upZ lo S v5) (upZ hi S v6) (upZ su S (zs Dm v5 (v6 + 1))) (upZ db S 0) N6_ (S + 1) = N7_ at eN7_ ⊢
      have f733 := eN7_ (v6 + 1) v5 (by omega) (by omega) (by omega) (by omega)
      refine j_iload (pc := 733) C dL_law_733 16 rfl ?_
      refine j_icmp_ne (pc := 735) C 794 dL_law_735 (by decide) ⟨by omega, by omega⟩ ⟨by omega, by omega⟩ (fun c_735 => absurd c_735 (by omega)) (fun c_735 => ?_)
      refine j_aload_n (pc := 738) C dL_law_738 1 rfl ?_
      refine j_iload (pc := 739) C dL_law_739 12 rfl ?_
      refine j_iload (pc := 741) C dL_law_741 13 rfl ?_
      refine j_callPI (pc := 743) C (As := [.int (zI v5), .int (zI v6)]) (rest := []) (wr := gR c2 q1 L.toNat r1 ++ (gB c1 r1 L.toNat L.toNat (gl (wz L lo hi su db S)) ++ (gR c2 q2 L.toNat r2 ++ (gB c1 r2 L.toNat L.toNat (gm (wz L lo hi su db S)) ++ (gO o la sa dy li so sp ++ (gR c2 la L.toNat r ++ (gR c2 sa S.toNat q ++ (gB c1 r L.toNat 2 (fL K Dm) ++ (gB c1 q S.toNat 4 (fS lo hi su db) ++ ([])))))))))) (kX0_greatestSum l D h c1 c2 c3 K Dm L (upZ lo S v5) (upZ hi S v6) (upZ su S (zs Dm v5 (v6 + 1))) (upZ db S 0) (S + 1) dy li so sp tu ah N7_ v5 v6 hok2 (by omega) (by omega) (by omega)) (cwV 2 C.2.2.2.2.1 gL_law_X0_greatestSum rfl rfl rfl (by decide +kernel) ⟨Nat.le_of_ble_eq_true rfl, Nat.le_of_ble_eq_true rfl⟩) 0 (ci := 0) rfl rfl rfl dL_law_743 rfl rfl (Nat.le_of_ble_eq_true rfl) ⟨(by show _ ≤ 600172; omega), (by show _ ≤ 7300668; omega)⟩ ?_
      have eN8_ := wz_eq hok2 N7_
      generalize wg L (upZ lo S v5) (upZ hi S v6) (upZ su S (zs Dm v5 (v6 + 1))) (upZ db S 0) N7_ (S + 1) = N8_ at eN8_ ⊢
      have f746 := eN8_ v5 (v6 + 1) (by omega) (by omega) (by omega) (by omega)
      refine j_iload (pc := 746) C dL_law_746 16 rfl ?_
      refine j_icmp_ne (pc := 748) C 794 dL_law_748 (by decide) ⟨by omega, by omega⟩ ⟨by omega, by omega⟩ (fun c_748 => absurd c_748 (by omega)) (fun c_748 => ?_)
      refine J.join (X := (Int → Int → Int)) (fun x9 => wG h c1 c2 K Dm L (upZ lo S v5) (upZ hi S v6) (upZ su S (zs Dm v5 (v6 + 1))) (upZ db S 0) (S + 1) dy li so sp tu ah x9 ++ (gR c2 q1 L.toNat r1 ++ (gB c1 r1 L.toNat L.toNat (gl (wz L lo hi su db S)) ++ (gR c2 q2 L.toNat r2 ++ (gB c1 r2 L.toNat L.toNat (gm (wz L lo hi su db S)) ++ (gO o la sa dy li so sp ++ (gR c2 la L.toNat r ++ (gR c2 sa S.toNat q ++ (gB c1 r L.toNat 2 (fL K Dm) ++ (gB c1 q S.toNat 4 (fS lo hi su db) ++ ([]))))))))))) (fun x9 => [(0, .ref b), (1, .ref (h 0)), (2, .ref o), (3, .int (zI tm)), (4, .int (zI x)), (5, .long (dgW K Dm L lo hi su db S dy li so sp (wz L lo hi su db S))), (7, .int (zI L)), (8, .int (zI (dNow (wz L lo hi su db S) L))), (9, .int (zI lw)), (10, .int (zI hg)), (11, .ref q1), (12, .ref q2), (13, .int (zI v5)), (14, .int (zI v6)), (15, .int (zI (dIf N1_ Dm L v5 v6))), (16, .int (zI bst)), (17, .int (zI (zs Dm v5 (v6 + 1))))]) (fun x9 => []) (fun x9 => True) 767 (k0) (s0) ?_ ?_
      · intro x9 hJ_767
        generalize x9 = N3 at hJ_767 ⊢
        try dsimp only at hJ_767 ⊢
        refine j_aload_n (pc := 767) C dL_law_767 1 rfl ?_
        refine j_aload_n (pc := 768) C dL_law_768 1 rfl ?_
        refine j_callPI (pc := 769) C (As := []) (rest := [.ref (h 0)]) (wr := gR c2 q1 L.toNat r1 ++ (gB c1 r1 L.toNat L.toNat (gl (wz L lo hi su db S)) ++ (gR c2 q2 L.toNat r2 ++ (gB c1 r2 L.toNat L.toNat (gm (wz L lo hi su db S)) ++ (gO o la sa dy li so sp ++ (gR c2 la L.toNat r ++ (gR c2 sa S.toNat q ++ (gB c1 r L.toNat 2 (fL K Dm) ++ (gB c1 q S.toNat 4 (fS lo hi su db) ++ ([])))))))))) (kX0_samples l D h c1 c2 c3 K Dm L (upZ lo S v5) (upZ hi S v6) (upZ su S (zs Dm v5 (v6 + 1))) (upZ db S 0) (S + 1) dy li so sp tu ah N3  ) (cwV 0 C.2.2.2.2.1 gL_law_X0_samples rfl rfl rfl (by decide +kernel) ⟨Nat.le_of_ble_eq_true rfl, Nat.le_of_ble_eq_true rfl⟩) 0 (ci := 0) rfl rfl rfl dL_law_769 rfl rfl (Nat.le_of_ble_eq_true rfl) ⟨(by show _ ≤ 600172; omega), (by show _ ≤ 7300668; omega)⟩ ?_
        refine j_iconst (pc := 772) C dL_law_772 ?_
        refine j_isub (pc := 773) C dL_law_773 ?_
        refine j_callPI (pc := 774) C (As := [.int (zI (((S + 1)) - 1))]) (rest := []) (wr := gR c2 q1 L.toNat r1 ++ (gB c1 r1 L.toNat L.toNat (gl (wz L lo hi su db S)) ++ (gR c2 q2 L.toNat r2 ++ (gB c1 r2 L.toNat L.toNat (gm (wz L lo hi su db S)) ++ (gO o la sa dy li so sp ++ (gR c2 la L.toNat r ++ (gR c2 sa S.toNat q ++ (gB c1 r L.toNat 2 (fL K Dm) ++ (gB c1 q S.toNat 4 (fS lo hi su db) ++ ([])))))))))) (kX0_throwAway l D h c1 c2 c3 K Dm L (upZ lo S v5) (upZ hi S v6) (upZ su S (zs Dm v5 (v6 + 1))) (upZ db S 0) (S + 1) dy li so sp tu ah N3 (((S + 1)) - 1) (by omega) (by omega) (by omega)) (cwV 1 C.2.2.2.2.1 gL_law_X0_throwAway rfl rfl rfl (by decide +kernel) ⟨Nat.le_of_ble_eq_true rfl, Nat.le_of_ble_eq_true rfl⟩) 0 (ci := 0) rfl rfl rfl dL_law_774 rfl rfl (Nat.le_of_ble_eq_true rfl) ⟨(by show _ ≤ 600172; omega), (by show _ ≤ 7300668; omega)⟩ ?_
        refine J.cast (ws' := wG h c1 c2 K Dm L (upZ lo S v5) (upZ hi S v6) (upZ su S (zs Dm v5 (v6 + 1))) (upZ db S 0) S dy li so sp tu ah N3 ++ (gR c2 q1 L.toNat r1 ++ (gB c1 r1 L.toNat L.toNat (gl (wz L lo hi su db S)) ++ (gR c2 q2 L.toNat r2 ++ (gB c1 r2 L.toNat L.toNat (gm (wz L lo hi su db S)) ++ (gO o la sa dy li so sp ++ (gR c2 la L.toNat r ++ (gR c2 sa S.toNat q ++ (gB c1 r L.toNat 2 (fL K Dm) ++ (gB c1 q S.toNat 4 (fS lo hi su db) ++ ([]))))))))))) (lv' := [(0, .ref b), (1, .ref (h 0)), (2, .ref o), (3, .int (zI tm)), (4, .int (zI x)), (5, .long (dgW K Dm L lo hi su db S dy li so sp (wz L lo hi su db S))), (7, .int (zI L)), (8, .int (zI (dNow (wz L lo hi su db S) L))), (9, .int (zI lw)), (10, .int (zI hg)), (11, .ref q1), (12, .ref q2), (13, .int (zI v5)), (14, .int (zI v6)), (15, .int (zI (dIf N1_ Dm L v5 v6))), (16, .int (zI bst)), (17, .int (zI (zs Dm v5 (v6 + 1))))]) (st' := [.int (zI S)]) ?_ (by rw [show S + 1 - 1 = S by omega, shA_0, shA_0, shA_0, shA_0]) (by rfl) (by rw [show S + 1 - 1 = S by omega])
        refine j_aload_n (pc := 777) C dL_law_777 1 rfl ?_
        refine j_callPI (pc := 778) C (As := []) (rest := [.int (zI S)]) (wr := gR c2 q1 L.toNat r1 ++ (gB c1 r1 L.toNat L.toNat (gl (wz L lo hi su db S)) ++ (gR c2 q2 L.toNat r2 ++ (gB c1 r2 L.toNat L.toNat (gm (wz L lo hi su db S)) ++ (gO o la sa dy li so sp ++ (gR c2 la L.toNat r ++ (gR c2 sa S.toNat q ++ (gB c1 r L.toNat 2 (fL K Dm) ++ (gB c1 q S.toNat 4 (fS lo hi su db) ++ ([])))))))))) (kX0_samples l D h c1 c2 c3 K Dm L (upZ lo S v5) (upZ hi S v6) (upZ su S (zs Dm v5 (v6 + 1))) (upZ db S 0) S dy li so sp tu ah N3  ) (cwV 0 C.2.2.2.2.1 gL_law_X0_samples rfl rfl rfl (by decide +kernel) ⟨Nat.le_of_ble_eq_true rfl, Nat.le_of_ble_eq_true rfl⟩) 0 (ci := 0) rfl rfl rfl dL_law_778 rfl rfl (Nat.le_of_ble_eq_true rfl) ⟨(by show _ ≤ 600172; omega), (by show _ ≤ 7300668; omega)⟩ ?_
        refine j_icmp_ne (pc := 781) C 794 dL_law_781 (by decide) ⟨by omega, by omega⟩ ⟨by omega, by omega⟩ (fun c_781 => absurd c_781 (by omega)) (fun c_781 => ?_)
        refine j_aload_n (pc := 784) C dL_law_784 1 rfl ?_
        have hok3 := (Rel.cg hR (fun j9 a9 b9 => (eqI_upZ lo S v5 j9 a9 b9).symm) (fun j9 a9 b9 => (eqI_upZ hi S v6 j9 a9 b9).symm) (fun j9 a9 b9 => (eqI_upZ su S (zs Dm v5 (v6 + 1)) j9 a9 b9).symm) (fun j9 a9 b9 => (eqI_upZ db S 0 j9 a9 b9).symm)).1
        refine j_callPL (pc := 785) C (As := []) (rest := []) (wr := gR c2 q1 L.toNat r1 ++ (gB c1 r1 L.toNat L.toNat (gl (wz L lo hi su db S)) ++ (gR c2 q2 L.toNat r2 ++ (gB c1 r2 L.toNat L.toNat (gm (wz L lo hi su db S)) ++ (gO o la sa dy li so sp ++ (gR c2 la L.toNat r ++ (gR c2 sa S.toNat q ++ (gB c1 r L.toNat 2 (fL K Dm) ++ (gB c1 q S.toNat 4 (fS lo hi su db) ++ ([])))))))))) (kX0_digest l D h c1 c2 c3 K Dm L (upZ lo S v5) (upZ hi S v6) (upZ su S (zs Dm v5 (v6 + 1))) (upZ db S 0) S dy li so sp tu ah N3  hok3 (by omega) (by omega)) (cwV 0 C.2.2.2.2.1 gL_law_X0_digest rfl rfl rfl (by decide +kernel) ⟨Nat.le_of_ble_eq_true rfl, Nat.le_of_ble_eq_true rfl⟩) 0 (ci := 0) rfl rfl rfl dL_law_785 rfl rfl (Nat.le_of_ble_eq_true rfl) ⟨(by show _ ≤ 600172; omega), (by show _ ≤ 7300668; omega)⟩ ?_
        refine J.cast (ws' := wG h c1 c2 K Dm L (upZ lo S v5) (upZ hi S v6) (upZ su S (zs Dm v5 (v6 + 1))) (upZ db S 0) S dy li so sp tu ah (wg L (upZ lo S v5) (upZ hi S v6) (upZ su S (zs Dm v5 (v6 + 1))) (upZ db S 0) N3 S) ++ (gR c2 q1 L.toNat r1 ++ (gB c1 r1 L.toNat L.toNat (gl (wz L lo hi su db S)) ++ (gR c2 q2 L.toNat r2 ++ (gB c1 r2 L.toNat L.toNat (gm (wz L lo hi su db S)) ++ (gO o la sa dy li so sp ++ (gR c2 la L.toNat r ++ (gR c2 sa S.toNat q ++ (gB c1 r L.toNat 2 (fL K Dm) ++ (gB c1 q S.toNat 4 (fS lo hi su db) ++ ([]))))))))))) (lv' := [(0, .ref b), (1, .ref (h 0)), (2, .ref o), (3, .int (zI tm)), (4, .int (zI x)), (5, .long (dgW K Dm L lo hi su db S dy li so sp (wz L lo hi su db S))), (7, .int (zI L)), (8, .int (zI (dNow (wz L lo hi su db S) L))), (9, .int (zI lw)), (10, .int (zI hg)), (11, .ref q1), (12, .ref q2), (13, .int (zI v5)), (14, .int (zI v6)), (15, .int (zI (dIf N1_ Dm L v5 v6))), (16, .int (zI bst)), (17, .int (zI (zs Dm v5 (v6 + 1))))]) (st' := [.long (dgW K Dm L lo hi su db S dy li so sp (wz L lo hi su db S))]) ?_ (by rfl) (by rfl) (by exact congrArg (fun v => [Value.long v]) (dgW_eq (eqI_upZ lo S v5) (eqI_upZ hi S v6) (eqI_upZ su S _) (eqI_upZ db S 0) (by rw [wg_pre _ hS0 (eqI_upZ lo S v5) (eqI_upZ hi S v6) (eqI_upZ su S _) (eqI_upZ db S 0)]; exact wz_eq hok _)))
        have eN9_ := wz_eq hok3 N3
        generalize wg L (upZ lo S v5) (upZ hi S v6) (upZ su S (zs Dm v5 (v6 + 1))) (upZ db S 0) N3 S = N9_ at eN9_ ⊢
        refine j_lload (pc := 788) C dL_law_788 5 rfl ?_
        refine j_lcmp0 (pc := 790) C rfl dL_law_790 ?_
        refine j_if_eq (pc := 791) C 796 dL_law_791 (by decide) ⟨by omega, by omega⟩ (fun c_791 => ?_) (fun c_791 => absurd c_791 (by omega))
        refine J.perm (ws' := wS c1 c2 o la sa r q dy li so sp L K Dm S lo hi su db ++ (wG h c1 c2 K Dm L (upZ lo S v5) (upZ hi S v6) (upZ su S (zs Dm v5 (v6 + 1))) (upZ db S 0) S dy li so sp tu ah N9_ ++ (gR c2 q1 L.toNat r1 ++ (gB c1 r1 L.toNat L.toNat (gl (wz L lo hi su db S)) ++ (gR c2 q2 L.toNat r2 ++ (gB c1 r2 L.toNat L.toNat (gm (wz L lo hi su db S)) ++ ([]))))))) (perm_of_count (fun cnt h1_ h0_ => by simp only [wU, wS, wGS, h1_, h0_] <;> omega)) ?_
        refine J.cast (ws' := wS c1 c2 o la sa r q dy li so sp L K Dm S (upZ lo S v5) (upZ hi S v6) (upZ su S (zs Dm v5 (v6 + 1))) (upZ db S 0) ++ (wG h c1 c2 K Dm L (upZ lo S v5) (upZ hi S v6) (upZ su S (zs Dm v5 (v6 + 1))) (upZ db S 0) S dy li so sp tu ah N9_ ++ (gR c2 q1 L.toNat r1 ++ (gB c1 r1 L.toNat L.toNat (gl (wz L lo hi su db S)) ++ (gR c2 q2 L.toNat r2 ++ (gB c1 r2 L.toNat L.toNat (gm (wz L lo hi su db S)) ++ ([]))))))) ?_ (by exact congrArg (· ++ (wG h c1 c2 K Dm L (upZ lo S v5) (upZ hi S v6) (upZ su S (zs Dm v5 (v6 + 1))) (upZ db S 0) S dy li so sp tu ah N9_ ++ (gR c2 q1 L.toNat r1 ++ (gB c1 r1 L.toNat L.toNat (gl (wz L lo hi su db S)) ++ (gR c2 q2 L.toNat r2 ++ (gB c1 r2 L.toNat L.toNat (gm (wz L lo hi su db S)) ++ ([]))))))) (wS_eq eqI.rf eqI.rf (fun j9 a9 b9 => (eqI_upZ lo S v5 j9 a9 b9).symm) (fun j9 a9 b9 => (eqI_upZ hi S v6 j9 a9 b9).symm) (fun j9 a9 b9 => (eqI_upZ su S _ j9 a9 b9).symm) (fun j9 a9 b9 => (eqI_upZ db S 0 j9 a9 b9).symm))) rfl rfl
        refine J.sub (ws' := wG h c1 c2 K Dm L (upZ lo S v5) (upZ hi S v6) (upZ su S (zs Dm v5 (v6 + 1))) (upZ db S 0) S dy li so sp tu ah N9_ ++ (gO o la sa dy li so sp ++ (gR c2 la L.toNat r ++ (gR c2 sa S.toNat q ++ (gB c1 r L.toNat 2 (fL K Dm) ++ (gB c1 q S.toNat 4 (fS (upZ lo S v5) (upZ hi S v6) (upZ su S (zs Dm v5 (v6 + 1))) (upZ db S 0)) ++ (gR c2 q1 L.toNat r1 ++ (gB c1 r1 L.toNat L.toNat (gl (wz L lo hi su db S)) ++ (gR c2 q2 L.toNat r2 ++ (gB c1 r2 L.toNat L.toNat (gm (wz L lo hi su db S)) ++ ([]))))))))))) (rest := []) (perm_of_count (fun cnt h1_ h0_ => by simp only [wU, wS, wGS, h1_, h0_] <;> omega)) ?_
        refine J.sub (ws' := wG h c1 c2 K Dm L (upZ lo S v5) (upZ hi S v6) (upZ su S (zs Dm v5 (v6 + 1))) (upZ db S 0) S dy li so sp tu ah N9_ ++ (gO o la sa dy li so sp ++ (gR c2 la L.toNat r ++ (gR c2 sa S.toNat q ++ (gB c1 r L.toNat 2 (fL K Dm) ++ (gB c1 q S.toNat 4 (fS (upZ lo S v5) (upZ hi S v6) (upZ su S (zs Dm v5 (v6 + 1))) (upZ db S 0)) ++ ([]))))))) (rest := gR c2 q1 L.toNat r1 ++ (gB c1 r1 L.toNat L.toNat (gl (wz L lo hi su db S)) ++ (gR c2 q2 L.toNat r2 ++ (gB c1 r2 L.toNat L.toNat (gm (wz L lo hi su db S)))))) (perm_of_count (fun cnt h1_ h0_ => by simp only [wU, wS, wGS, h1_, h0_] <;> omega)) ?_
        refine J.pick (lv' := [(0, .ref b), (1, .ref (h 0)), (2, .ref o), (3, .int (zI tm)), (4, .int (zI x)), (7, .int (zI L)), (8, .int (zI (dNow (wz L lo hi su db S) L))), (9, .int (zI lw)), (10, .int (zI hg))]) [0, 1, 2, 3, 4, 6, 7, 8, 9] rfl ?_
        exact J.widen (by omega) (by omega) (J.cast (k (upZ lo S v5) (upZ hi S v6) (upZ su S (zs Dm v5 (v6 + 1))) (upZ db S 0) N9_ (fun j9 a9 b9 => (eqI_upZ lo S v5 j9 a9 b9).symm) (fun j9 a9 b9 => (eqI_upZ hi S v6 j9 a9 b9).symm) (fun j9 a9 b9 => (eqI_upZ su S _ j9 a9 b9).symm) (fun j9 a9 b9 => (eqI_upZ db S 0 j9 a9 b9).symm)) rfl rfl rfl)
      · intro kj_767
        try dsimp only at kj_767 ⊢
        refine j_iload (pc := 751) C dL_law_751 12 rfl ?_
        refine j_iload (pc := 753) C dL_law_753 13 rfl ?_
        refine j_icmp_ne (pc := 755) C 767 dL_law_755 (by decide) ⟨by omega, by omega⟩ ⟨by omega, by omega⟩ (fun c_755 => ?_) (fun c_755 => ?_)
        · skip
          exact J.widen (by omega) (by omega) (J.cast (kj_767 N8_ trivial) (by rfl) (by rfl) (by rfl))
        · skip
          refine j_aload_n (pc := 758) C dL_law_758 1 rfl ?_
          refine j_iload (pc := 759) C dL_law_759 12 rfl ?_
          refine j_callPI (pc := 761) C (As := [.int (zI v5)]) (rest := []) (wr := gR c2 q1 L.toNat r1 ++ (gB c1 r1 L.toNat L.toNat (gl (wz L lo hi su db S)) ++ (gR c2 q2 L.toNat r2 ++ (gB c1 r2 L.toNat L.toNat (gm (wz L lo hi su db S)) ++ (gO o la sa dy li so sp ++ (gR c2 la L.toNat r ++ (gR c2 sa S.toNat q ++ (gB c1 r L.toNat 2 (fL K Dm) ++ (gB c1 q S.toNat 4 (fS lo hi su db) ++ ([])))))))))) (kX0_isKnown l D h c1 c2 c3 K Dm L (upZ lo S v5) (upZ hi S v6) (upZ su S (zs Dm v5 (v6 + 1))) (upZ db S 0) (S + 1) dy li so sp tu ah N8_ v5 hok2 (by omega) (by omega)) (cwV 1 C.2.2.2.2.1 gL_law_X0_isKnown rfl rfl rfl (by decide +kernel) ⟨Nat.le_of_ble_eq_true rfl, Nat.le_of_ble_eq_true rfl⟩) 0 (ci := 0) rfl rfl rfl dL_law_761 rfl rfl (Nat.le_of_ble_eq_true rfl) ⟨(by show _ ≤ 600172; omega), (by show _ ≤ 7300668; omega)⟩ ?_
          have eN10_ := wz_eq hok2 N8_
          generalize wg L (upZ lo S v5) (upZ hi S v6) (upZ su S (zs Dm v5 (v6 + 1))) (upZ db S 0) N8_ (S + 1) = N10_ at eN10_ ⊢
          have f764 := kt9 c_755
          have f7640 := eN10_ (v5 + 1) v5 (by omega) (by omega) (by omega) (by omega)
          have f7641 := eN10_ v5 (v5 + 1) (by omega) (by omega) (by omega) (by omega)
          have f7642 : (if -(N10_ (v5 + 1) v5) = N10_ v5 (v5 + 1) then (1 : Int) else 0) = 1 := if_pos (by omega)
          refine j_if_eq (pc := 764) C 794 dL_law_764 (by decide) ⟨by omega, by omega⟩ (fun c_764 => absurd c_764 (by omega)) (fun c_764 => ?_)
          exact J.widen (by omega) (by omega) (J.cast (kj_767 N10_ trivial) (by rfl) (by rfl) (by rfl))
end LW
