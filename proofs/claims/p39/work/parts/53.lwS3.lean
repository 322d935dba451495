/-! ===== the law: its body ===== -/
section LW
variable {p : Program} {l : Launch} {e : Env} {s : State} {m : MethodId} {args : Array Value} {below : List Frame} {meth : Method} {c : Code} {D : va_G} {c1 c2 c3 : ClassId} {A : Nat → Prop} {Q : State → Prop}
set_option maxHeartbeats 8000000 in
set_option maxRecDepth 100000 in
theorem lwS3 (C : GC p s m args meth c cL_law 19 RL wsL_law D (tyS c1 c2 c3) A) (ho : va_AOA .int s) (o b : Nat) (h : Nat → Nat) (K Dm : Int → Int) (L : Int) (lo hi su db : Int → Int) (S dy li so sp : Int) (tu ah : Int → Int) (M : Int → Int → Int) (la sa : Nat) (r q : Nat → Nat) (tm x : Int) (k0 s0 : Nat) (t : Int) (N : Int → Int → Int) (q1 q2 : Nat) (r1 r2 : Nat → Nat) (d0 : Int64) (lw hg : Int) (hI : IU t (K, Dm, L, lo, hi, su, db, S, dy, li, so, sp, tu, ah, M, la, sa, r, q)) (t0 : 0 ≤ t) (t1 : t < 500) (hk0 : k0 ≤ 100000) (hs0 : s0 ≤ 1000000) (k : ∀ (N : Int → Int → Int), J p l e room_1 s m args below meth c 19 D A (k0 + 1) (s0 + 13) Q (wG h c1 c2 K Dm L lo hi su db S dy li so sp tu ah N ++ (gR c2 q1 L.toNat r1 ++ (gB c1 r1 L.toNat L.toNat (gl (wz L lo hi su db S)) ++ (gR c2 q2 L.toNat r2 ++ (gB c1 r2 L.toNat L.toNat (gm (wz L lo hi su db S)) ++ (gO o la sa dy li so sp ++ (gR c2 la L.toNat r ++ (gR c2 sa S.toNat q ++ (gB c1 r L.toNat 2 (fL K Dm) ++ (gB c1 q S.toNat 4 (fS lo hi su db) ++ ([]))))))))))) [(0, .ref b), (1, .ref (h 0)), (2, .ref o), (3, .int (zI tm)), (4, .int (zI x)), (5, .long d0), (7, .int (zI L)), (8, .int (zI (dNow (wz L lo hi su db S) L))), (9, .int (zI lw)), (10, .int (zI hg)), (11, .ref q1), (12, .ref q2)] 584 []) : J p l e room_1 s m args below meth c 19 D A (k0) (s0) Q (wG h c1 c2 K Dm L lo hi su db S dy li so sp tu ah N ++ (gR c2 q1 L.toNat r1 ++ (gB c1 r1 L.toNat L.toNat (gl (wz L lo hi su db S)) ++ (gR c2 q2 L.toNat r2 ++ (gB c1 r2 L.toNat L.toNat (gm (wz L lo hi su db S)) ++ (gO o la sa dy li so sp ++ (gR c2 la L.toNat r ++ (gR c2 sa S.toNat q ++ (gB c1 r L.toNat 2 (fL K Dm) ++ (gB c1 q S.toNat 4 (fS lo hi su db) ++ ([]))))))))))) [(0, .ref b), (1, .ref (h 0)), (2, .ref o), (3, .int (zI tm)), (4, .int (zI x)), (5, .long d0), (7, .int (zI L)), (8, .int (zI (dNow (wz L lo hi su db S) L))), (9, .int (zI lw)), (10, .int (zI hg)), (11, .ref q1), (12, .ref q2)] 507 [] := by
  obtain ⟨hR, hdy, hso, hsp⟩ := id hI
  have hok := hR.1
  obtain ⟨⟨hL0, hL⟩, ⟨hS0, hS⟩, hf, hs⟩ := id hok
  have hkK := hR.2.2.1
  have hli := hR.2.2.2.1
  have hB := wz_B hok
  have hT := wz_T hok
  have hE9 := wz_E hok
  have hW9 := wz_ok hok
  have dn9 := dNow_in hL0 hL hB
  have dd9 := dry_damp (li := li) hok
  have zc9 := zc_le (fun j => decide (li < Dm j)) 0 L hL0
  have nd9 : 0 ≤ nDry (wz L lo hi su db S) li L ∧ nDry (wz L lo hi su db S) li L ≤ L - 0 := zc_le _ 0 L hL0
  have nw9 : 0 ≤ nDamp (wz L lo hi su db S) li L ∧ nDamp (wz L lo hi su db S) li L ≤ L - 0 := zc_le _ 0 L hL0
  refine j_iload (pc := 507) C dL_law_507 7 rfl ?_
  refine j_aload_n (pc := 509) C dL_law_509 1 rfl ?_
  refine j_callPI (pc := 510) C (As := []) (rest := [.int (zI (dNow (wz L lo hi su db S) L))]) (wr := gR c2 q1 L.toNat r1 ++ (gB c1 r1 L.toNat L.toNat (gl (wz L lo hi su db S)) ++ (gR c2 q2 L.toNat r2 ++ (gB c1 r2 L.toNat L.toNat (gm (wz L lo hi su db S)) ++ (gO o la sa dy li so sp ++ (gR c2 la L.toNat r ++ (gR c2 sa S.toNat q ++ (gB c1 r L.toNat 2 (fL K Dm) ++ (gB c1 q S.toNat 4 (fS lo hi su db) ++ ([])))))))))) (kX0_doubt l D h c1 c2 c3 K Dm L lo hi su db S dy li so sp tu ah N  hok) (cwV 0 C.2.2.2.2.1 gL_law_X0_doubt rfl rfl rfl (by decide +kernel) ⟨Nat.le_of_ble_eq_true rfl, Nat.le_of_ble_eq_true rfl⟩) 0 (ci := 0) rfl rfl rfl dL_law_510 rfl rfl (Nat.le_of_ble_eq_true rfl) ⟨(by show _ ≤ 600172; omega), (by show _ ≤ 7300668; omega)⟩ ?_
  have eN1_ := wz_eq hok N
  generalize wg L lo hi su db N S = N1_ at eN1_ ⊢
  have dN1_ := eqL_nDry eN1_ li
  have wN1_ := eqL_nDamp eN1_ li
  have nN1_ := eqL_dNow eN1_
  refine j_icmp_ne (pc := 513) C 582 dL_law_513 (by decide) ⟨by omega, by omega⟩ ⟨by omega, by omega⟩ (fun c_513 => absurd c_513 (by omega)) (fun c_513 => ?_)
  refine j_aload_n (pc := 516) C dL_law_516 1 rfl ?_
  refine J.join (X := Int) (fun x9 => wG h c1 c2 K Dm L lo hi su db S dy li so sp tu ah N1_ ++ (gR c2 q1 L.toNat r1 ++ (gB c1 r1 L.toNat L.toNat (gl (wz L lo hi su db S)) ++ (gR c2 q2 L.toNat r2 ++ (gB c1 r2 L.toNat L.toNat (gm (wz L lo hi su db S)) ++ (gO o la sa dy li so sp ++ (gR c2 la L.toNat r ++ (gR c2 sa S.toNat q ++ (gB c1 r L.toNat 2 (fL K Dm) ++ (gB c1 q S.toNat 4 (fS lo hi su db) ++ ([]))))))))))) (fun x9 => [(0, .ref b), (1, .ref (h 0)), (2, .ref o), (3, .int (zI tm)), (4, .int (zI x)), (5, .long d0), (7, .int (zI L)), (8, .int (zI (dNow (wz L lo hi su db S) L))), (9, .int (zI lw)), (10, .int (zI hg)), (11, .ref q1), (12, .ref q2)]) (fun x9 => [.int (zI x9), .ref (h 0)]) (fun x9 => 0 ≤ x9 ∧ x9 ≤ L) 537 (k0) (s0) ?_ ?_
  · intro x9 hJ_537
    generalize x9 = v9 at hJ_537 ⊢
    try dsimp only at hJ_537 ⊢
    refine j_callSEI (pc := 537) C E1.be (E1.he ho) (As := [.ref (h 0), .int (zI v9)]) (rest := []) (w0 := wG h c1 c2 K Dm L lo hi su db S dy li so sp tu ah N1_) (wr := gR c2 q1 L.toNat r1 ++ (gB c1 r1 L.toNat L.toNat (gl (wz L lo hi su db S)) ++ (gR c2 q2 L.toNat r2 ++ (gB c1 r2 L.toNat L.toNat (gm (wz L lo hi su db S)) ++ (gO o la sa dy li so sp ++ (gR c2 la L.toNat r ++ (gR c2 sa S.toNat q ++ (gB c1 r L.toNat 2 (fL K Dm) ++ (gB c1 q S.toNat 4 (fS lo hi su db) ++ ([])))))))))) (kL_isSoAtOnce l D c1 c2 c3 h K Dm L lo hi su db S dy li so sp tu ah N1_ v9 hok (by omega) (by omega)) (va_cwS 2 C.2.2.2.2.1 gL_law_L_isSoAtOnce rfl rfl rfl (by decide +kernel) ⟨Nat.le_of_ble_eq_true rfl, Nat.le_of_ble_eq_true rfl⟩) dL_law_537 rfl rfl (Nat.le_of_ble_eq_true rfl) ⟨(by show _ ≤ 600172; omega), (by show _ ≤ 7300668; omega)⟩ (fun N2_ _ => ?_)
    refine j_if_eq (pc := 540) C 582 dL_law_540 (by decide) ⟨by omega, by omega⟩ (fun c_540 => absurd c_540 (by omega)) (fun c_540 => ?_)
    refine j_aload_n (pc := 543) C dL_law_543 1 rfl ?_
    refine j_callPI (pc := 544) C (As := []) (rest := []) (wr := gR c2 q1 L.toNat r1 ++ (gB c1 r1 L.toNat L.toNat (gl (wz L lo hi su db S)) ++ (gR c2 q2 L.toNat r2 ++ (gB c1 r2 L.toNat L.toNat (gm (wz L lo hi su db S)) ++ (gO o la sa dy li so sp ++ (gR c2 la L.toNat r ++ (gR c2 sa S.toNat q ++ (gB c1 r L.toNat 2 (fL K Dm) ++ (gB c1 q S.toNat 4 (fS lo hi su db) ++ ([])))))))))) (kX0_surelyDry l D h c1 c2 c3 K Dm L lo hi su db S dy li so sp tu ah N2_  hok (by omega) (by omega)) (cwV 0 C.2.2.2.2.1 gL_law_X0_surelyDry rfl rfl rfl (by decide +kernel) ⟨Nat.le_of_ble_eq_true rfl, Nat.le_of_ble_eq_true rfl⟩) 0 (ci := 0) rfl rfl rfl dL_law_544 rfl rfl (Nat.le_of_ble_eq_true rfl) ⟨(by show _ ≤ 600172; omega), (by show _ ≤ 7300668; omega)⟩ ?_
    have eN3_ := wz_eq hok N2_
    generalize wg L lo hi su db N2_ S = N3_ at eN3_ ⊢
    have dN3_ := eqL_nDry eN3_ li
    have wN3_ := eqL_nDamp eN3_ li
    have nN3_ := eqL_dNow eN3_
    refine j_aload_n (pc := 547) C dL_law_547 1 rfl ?_
    refine j_callPI (pc := 548) C (As := []) (rest := [.int (zI (nDry N3_ li L))]) (wr := gR c2 q1 L.toNat r1 ++ (gB c1 r1 L.toNat L.toNat (gl (wz L lo hi su db S)) ++ (gR c2 q2 L.toNat r2 ++ (gB c1 r2 L.toNat L.toNat (gm (wz L lo hi su db S)) ++ (gO o la sa dy li so sp ++ (gR c2 la L.toNat r ++ (gR c2 sa S.toNat q ++ (gB c1 r L.toNat 2 (fL K Dm) ++ (gB c1 q S.toNat 4 (fS lo hi su db) ++ ([])))))))))) (kX0_surelyDamp l D h c1 c2 c3 K Dm L lo hi su db S dy li so sp tu ah N3_  hok (by omega) (by omega)) (cwV 0 C.2.2.2.2.1 gL_law_X0_surelyDamp rfl rfl rfl (by decide +kernel) ⟨Nat.le_of_ble_eq_true rfl, Nat.le_of_ble_eq_true rfl⟩) 0 (ci := 0) rfl rfl rfl dL_law_548 rfl rfl (Nat.le_of_ble_eq_true rfl) ⟨(by show _ ≤ 600172; omega), (by show _ ≤ 7300668; omega)⟩ ?_
    have eN4_ := wz_eq hok N3_
    generalize wg L lo hi su db N3_ S = N4_ at eN4_ ⊢
    have dN4_ := eqL_nDry eN4_ li
    have wN4_ := eqL_nDamp eN4_ li
    have nN4_ := eqL_dNow eN4_
    refine j_iadd (pc := 551) C dL_law_551 ?_
    refine j_iload (pc := 552) C dL_law_552 6 rfl ?_
    refine j_icmp_gt (pc := 554) C 582 dL_law_554 (by decide) ⟨by omega, by omega⟩ ⟨by omega, by omega⟩ (fun c_554 => absurd c_554 (by omega)) (fun c_554 => ?_)
    refine j_aload_n (pc := 557) C dL_law_557 1 rfl ?_
    refine j_callPI (pc := 558) C (As := []) (rest := []) (wr := gR c2 q1 L.toNat r1 ++ (gB c1 r1 L.toNat L.toNat (gl (wz L lo hi su db S)) ++ (gR c2 q2 L.toNat r2 ++ (gB c1 r2 L.toNat L.toNat (gm (wz L lo hi su db S)) ++ (gO o la sa dy li so sp ++ (gR c2 la L.toNat r ++ (gR c2 sa S.toNat q ++ (gB c1 r L.toNat 2 (fL K Dm) ++ (gB c1 q S.toNat 4 (fS lo hi su db) ++ ([])))))))))) (kX0_surelyDamp l D h c1 c2 c3 K Dm L lo hi su db S dy li so sp tu ah N4_  hok (by omega) (by omega)) (cwV 0 C.2.2.2.2.1 gL_law_X0_surelyDamp rfl rfl rfl (by decide +kernel) ⟨Nat.le_of_ble_eq_true rfl, Nat.le_of_ble_eq_true rfl⟩) 0 (ci := 0) rfl rfl rfl dL_law_558 rfl rfl (Nat.le_of_ble_eq_true rfl) ⟨(by show _ ≤ 600172; omega), (by show _ ≤ 7300668; omega)⟩ ?_
    have eN5_ := wz_eq hok N4_
    generalize wg L lo hi su db N4_ S = N5_ at eN5_ ⊢
    have dN5_ := eqL_nDry eN5_ li
    have wN5_ := eqL_nDamp eN5_ li
    have nN5_ := eqL_dNow eN5_
    refine j_aload_n (pc := 561) C dL_law_561 1 rfl ?_
    refine j_callPI (pc := 562) C (As := []) (rest := [.int (zI (nDamp N5_ li L))]) (wr := gR c2 q1 L.toNat r1 ++ (gB c1 r1 L.toNat L.toNat (gl (wz L lo hi su db S)) ++ (gR c2 q2 L.toNat r2 ++ (gB c1 r2 L.toNat L.toNat (gm (wz L lo hi su db S)) ++ (gO o la sa dy li so sp ++ (gR c2 la L.toNat r ++ (gR c2 sa S.toNat q ++ (gB c1 r L.toNat 2 (fL K Dm) ++ (gB c1 q S.toNat 4 (fS lo hi su db) ++ ([])))))))))) (kX0_dampLayers l D h c1 c2 c3 K Dm L lo hi su db S dy li so sp tu ah N5_  (by omega) (by omega) (by omega) (by omega) hok.2.2.1) (cwV 0 C.2.2.2.2.1 gL_law_X0_dampLayers rfl rfl rfl (by decide +kernel) ⟨Nat.le_of_ble_eq_true rfl, Nat.le_of_ble_eq_true rfl⟩) 0 (ci := 0) rfl rfl rfl dL_law_562 rfl rfl (Nat.le_of_ble_eq_true rfl) ⟨(by show _ ≤ 600172; omega), (by show _ ≤ 7300668; omega)⟩ ?_
    refine j_icmp_gt (pc := 565) C 582 dL_law_565 (by decide) ⟨by omega, by omega⟩ ⟨by omega, by omega⟩ (fun c_565 => absurd c_565 (by omega)) (fun c_565 => ?_)
    refine j_aload_n (pc := 568) C dL_law_568 1 rfl ?_
    refine j_callPI (pc := 569) C (As := []) (rest := []) (wr := gR c2 q1 L.toNat r1 ++ (gB c1 r1 L.toNat L.toNat (gl (wz L lo hi su db S)) ++ (gR c2 q2 L.toNat r2 ++ (gB c1 r2 L.toNat L.toNat (gm (wz L lo hi su db S)) ++ (gO o la sa dy li so sp ++ (gR c2 la L.toNat r ++ (gR c2 sa S.toNat q ++ (gB c1 r L.toNat 2 (fL K Dm) ++ (gB c1 q S.toNat 4 (fS lo hi su db) ++ ([])))))))))) (kX0_surelyDry l D h c1 c2 c3 K Dm L lo hi su db S dy li so sp tu ah N5_  hok (by omega) (by omega)) (cwV 0 C.2.2.2.2.1 gL_law_X0_surelyDry rfl rfl rfl (by decide +kernel) ⟨Nat.le_of_ble_eq_true rfl, Nat.le_of_ble_eq_true rfl⟩) 0 (ci := 0) rfl rfl rfl dL_law_569 rfl rfl (Nat.le_of_ble_eq_true rfl) ⟨(by show _ ≤ 600172; omega), (by show _ ≤ 7300668; omega)⟩ ?_
    have eN6_ := wz_eq hok N5_
    generalize wg L lo hi su db N5_ S = N6_ at eN6_ ⊢
    have dN6_ := eqL_nDry eN6_ li
    have wN6_ := eqL_nDamp eN6_ li
    have nN6_ := eqL_dNow eN6_
    refine j_iload (pc := 572) C dL_law_572 6 rfl ?_
    refine j_aload_n (pc := 574) C dL_law_574 1 rfl ?_
    refine j_callPI (pc := 575) C (As := []) (rest := [.int (zI L), .int (zI (nDry N6_ li L))]) (wr := gR c2 q1 L.toNat r1 ++ (gB c1 r1 L.toNat L.toNat (gl (wz L lo hi su db S)) ++ (gR c2 q2 L.toNat r2 ++ (gB c1 r2 L.toNat L.toNat (gm (wz L lo hi su db S)) ++ (gO o la sa dy li so sp ++ (gR c2 la L.toNat r ++ (gR c2 sa S.toNat q ++ (gB c1 r L.toNat 2 (fL K Dm) ++ (gB c1 q S.toNat 4 (fS lo hi su db) ++ ([])))))))))) (kX0_dampLayers l D h c1 c2 c3 K Dm L lo hi su db S dy li so sp tu ah N6_  (by omega) (by omega) (by omega) (by omega) hok.2.2.1) (cwV 0 C.2.2.2.2.1 gL_law_X0_dampLayers rfl rfl rfl (by decide +kernel) ⟨Nat.le_of_ble_eq_true rfl, Nat.le_of_ble_eq_true rfl⟩) 0 (ci := 0) rfl rfl rfl dL_law_575 rfl rfl (Nat.le_of_ble_eq_true rfl) ⟨(by show _ ≤ 600172; omega), (by show _ ≤ 7300668; omega)⟩ ?_
    refine j_isub (pc := 578) C dL_law_578 ?_
    refine j_icmp_le (pc := 579) C 584 dL_law_579 (by decide) ⟨by omega, by omega⟩ ⟨by omega, by omega⟩ (fun c_579 => ?_) (fun c_579 => absurd c_579 (by omega))
    exact J.widen (by omega) (by omega) (J.cast (k N6_) rfl rfl rfl)
  · intro kj_537
    try dsimp only at kj_537 ⊢
    refine j_iload (pc := 517) C dL_law_517 6 rfl ?_
    refine j_if_ne (pc := 519) C 526 dL_law_519 (by decide) ⟨by omega, by omega⟩ (fun c_519 => ?_) (fun c_519 => ?_)
    · skip
      refine j_iload (pc := 526) C dL_law_526 4 rfl ?_
      refine j_iconst (pc := 528) C dL_law_528 ?_
      refine j_ishr (pc := 529) C (sh_eq x 4) dL_law_529 ?_
      refine j_iload (pc := 530) C dL_law_530 6 rfl ?_
      refine j_iconst (pc := 532) C dL_law_532 ?_
      refine j_iadd (pc := 533) C dL_law_533 ?_
      refine j_callSI (pc := 534) C (As := [.int (zI (sh x 4)), .int (zI (L + 1))]) (rest := [.ref (h 0)]) (kL_below l D c1 c2 c3 (sh x 4) (L + 1) (by omega) (by omega)) (va_cwS 2 C.2.2.2.2.1 gL_law_L_below rfl rfl rfl (by decide +kernel) ⟨Nat.le_of_ble_eq_true rfl, Nat.le_of_ble_eq_true rfl⟩) dL_law_534 rfl rfl (Nat.le_of_ble_eq_true rfl) ⟨(by show _ ≤ 600172; omega), (by show _ ≤ 7300668; omega)⟩ ?_
      have b_534 := bl_in (v := sh x 4) (n := L + 1) (by omega)
      exact J.widen (by omega) (by omega) (J.cast (kj_537 (bl (sh x 4) (L + 1)) ⟨by omega, by omega⟩) (by rfl) (by rfl) (by rfl))
    · skip
      refine j_iconst (pc := 522) C dL_law_522 ?_
      refine j_goto (pc := 523) C 537 dL_law_523 (by decide) ?_
      exact J.widen (by omega) (by omega) (J.cast (kj_537 0 ⟨by omega, by omega⟩) (by rfl) (by rfl) (by rfl))
end LW
