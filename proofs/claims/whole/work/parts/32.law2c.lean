/-! ===== the law's cases, 3 ===== -/
set_option maxHeartbeats 4000000 in
set_option maxRecDepth 100000 in
theorem lw_greatestSum {p : Program} {l : Launch} {e : Env} {s : State} {m : MethodId} {args : Array Value} {below : List Frame} {meth : Method} {c : Code} {D : va_G} {A : Nat → Prop} {cells slots : Nat} {Q : State → Prop} {c1 c2 c3 : ClassId} {h k : Nat → Nat} {o9 sb n : Nat} {xs : Nat → Int32} (C : GC p s m args meth c cL_law 9 RL wsL_law D (tyS c1 c2 c3) A) (htr : l.stackTraces = false) (hx : xF A s s.heap) (hX : va_X sb n xs s s.heap) (hbl : sb < s.heap.size) (hbA : ¬ A sb) {i : Int} (i0 : 0 ≤ i) (i1 : i + 2 < n) (hn : n ≤ 1536) (hcl : cells + 1 ≤ room_1.cells) (hsl : slots + 9 ≤ room_1.slots) {t : Int} (t0 : 0 ≤ t) (t1 : t < 512) {K Dm : Int → Int} {L : Int} {lo hi su db : Int → Int} {S dy li so sp : Int} {tu ah : Int → Int} {M : Int → Int → Int} {f9 : Nat → Int64} {th : Int} {K' Dm' lo' hi' su' db' : Int → Int} {X : Int → Int → Int} {ke se : Int → Int} (r : Rel t K Dm L lo hi su db S li K' Dm' lo' hi' su' db') (kont : ∀ w, LI (t + 1) c1 c2 c3 h k o9 w → J p l e room_1 s m args below meth c 9 D A (cells + 1) (slots + 9) Q w [(0, .ref sb), (1, .ref (h 0)), (2, .ref (k 0)), (3, .ref o9), (4, .int (zI i))] 1713 []) : J p l e room_1 s m args below meth c 9 D A cells slots Q ((wG h c1 c2 K Dm L lo hi su db S dy li so sp tu ah M ++ [(o9, .inl (c3, 1, .inr (.inl f9)))]) ++ wN k c1 th L K' Dm' S lo' hi' su' db' dy li so sp X ke se) [(0, .ref sb), (1, .ref (h 0)), (2, .ref (k 0)), (3, .ref o9), (4, .int (zI i))] 1397 [] := by
  obtain ⟨⟨⟨hL0, hL⟩, ⟨hS0, hS⟩, hf, hs⟩, hd, hk, ⟨l0, l1⟩, eK, eD, e1, e2, e3, e4⟩ := id r
  obtain ⟨a, ea⟩ : ∃ a, (xs (i + 1).toNat).toInt = a := ⟨_, rfl⟩
  obtain ⟨b, eb⟩ : ∃ b, (xs (i + 2).toNat).toInt = b := ⟨_, rfl⟩
  have ha : zR a := by rw [← ea]; exact zR_of _
  have hb : zR b := by rw [← eb]; exact zR_of _
  obtain ⟨ha1, ha2⟩ := id ha
  obtain ⟨hb1, hb2⟩ := id hb
  by_cases hq0 : 0 ≤ a ∧ a ≤ b ∧ b < L
  case neg =>
    refine j_aload_n (pc := 1397) C dL_law_1397 1 rfl ?_
    refine j_aload_n (pc := 1398) C dL_law_1398 0 rfl ?_
    refine j_iload (pc := 1399) C dL_law_1399 4 rfl ?_
    refine j_iconst (pc := 1401) C dL_law_1401 ?_
    refine j_iadd (pc := 1402) C dL_law_1402 ?_
    refine j_sld (pc := 1403) C hX hbl hbA hn (by omega) (by omega) ea dL_law_1403 ?_
    refine j_aload_n (pc := 1404) C dL_law_1404 0 rfl ?_
    refine j_iload (pc := 1405) C dL_law_1405 4 rfl ?_
    refine j_iconst (pc := 1407) C dL_law_1407 ?_
    refine j_iadd (pc := 1408) C dL_law_1408 ?_
    refine j_sld (pc := 1409) C hX hbl hbA hn (by omega) (by omega) eb dL_law_1409 ?_
    refine j_aload_n (pc := 1410) C dL_law_1410 3 rfl ?_
    refine j_callSIX (pc := 1411) C htr hx (As := [.ref (h 0), .int (zI a), .int (zI b), .ref o9]) (rest := []) rfl (kL_greatestSum_x1 l D h c1 c2 c3 K Dm L lo hi su db S dy li so sp tu ah M o9 f9 a b (by omega) (by omega) ha hb (by omega)) (vx_cwSW 4 C.2.2.2.2.1 gL_law_L_greatestSum rfl rfl rfl (by decide +kernel) ⟨Nat.le_of_ble_eq_true rfl, Nat.le_of_ble_eq_true rfl⟩) dL_law_1411 rfl rfl (Nat.le_of_ble_eq_true rfl) ⟨by omega, by omega⟩ ?_
    refine j_istore (pc := 1414) C dL_law_1414 (by decide) [1, 2, 3, 4, 5, 0] rfl ?_
    refine j_aload_n (pc := 1416) C dL_law_1416 2 rfl ?_
    refine j_aload_n (pc := 1417) C dL_law_1417 0 rfl ?_
    refine j_iload (pc := 1418) C dL_law_1418 4 rfl ?_
    refine j_iconst (pc := 1420) C dL_law_1420 ?_
    refine j_iadd (pc := 1421) C dL_law_1421 ?_
    refine j_sld (pc := 1422) C hX hbl hbA hn (by omega) (by omega) ea dL_law_1422 ?_
    refine j_aload_n (pc := 1423) C dL_law_1423 0 rfl ?_
    refine j_iload (pc := 1424) C dL_law_1424 4 rfl ?_
    refine j_iconst (pc := 1426) C dL_law_1426 ?_
    refine j_iadd (pc := 1427) C dL_law_1427 ?_
    refine j_sld (pc := 1428) C hX hbl hbA hn (by omega) (by omega) eb dL_law_1428 ?_
    refine J.swap ?_
    refine j_callFI (pc := 1429) C (As := [.int (zI a), .int (zI b)]) (rest := []) (kX1_greatestSum_no1 l D k c1 c2 c3 th L K' Dm' S lo' hi' su' db' dy li so sp X ke se a b (by omega) (by omega) ha hb (by omega)) [0, 1, 2] rfl (cwV 2 C.2.2.2.2.1 gL_law_X1_greatestSum rfl rfl rfl (by decide +kernel) ⟨Nat.le_of_ble_eq_true rfl, Nat.le_of_ble_eq_true rfl⟩) 0 (ci := 1) rfl rfl rfl dL_law_1429 rfl rfl (Nat.le_of_ble_eq_true rfl) ⟨by omega, by omega⟩ ?_
    refine j_istore (pc := 1432) C dL_law_1432 (by decide) [1, 2, 3, 4, 5, 6, 0] rfl ?_
    refine j_aload_n (pc := 1434) C dL_law_1434 2 rfl ?_
    refine j_callFI (pc := 1435) C (As := []) (rest := []) (kX1_thrown l D k c1 c2 c3 _ _ _ _ _ _ _ _ _ _ _ _ _ _ _ _) [0, 1, 2] rfl (cwV 0 C.2.2.2.2.1 gL_law_X1_thrown rfl rfl rfl (by decide +kernel) ⟨Nat.le_of_ble_eq_true rfl, Nat.le_of_ble_eq_true rfl⟩) 0 (ci := 1) rfl rfl rfl dL_law_1435 rfl rfl (Nat.le_of_ble_eq_true rfl) ⟨by omega, by omega⟩ ?_
    refine j_iload (pc := 1438) C dL_law_1438 5 rfl ?_
    refine j_icmp_eq (pc := 1440) C 1445 (a := 1) (b := 1) dL_law_1440 (by decide) ⟨by decide, by decide⟩ ⟨by decide, by decide⟩ (fun _ => ?_) (fun q => absurd rfl q)
    refine j_iload (pc := 1445) C dL_law_1445 5 rfl ?_
    refine j_if_ne (pc := 1447) C 1462 dL_law_1447 (by decide) ⟨by decide, by decide⟩ (fun _ => ?_) (fun q => absurd q (by decide))
    refine j_goto (pc := 1462) C 1713 dL_law_1462 (by decide) ?_
    refine J.swap ?_
    refine J.pick [0, 1, 2, 3, 4] rfl ?_
    refine J.widen (k := cells + 1) (n := slots + 9) (by omega) (by omega) (kont _ ?_)
    exact ⟨_, _, _, _, _, _, _, _, _, _, _, _, _, _, _, _, _, _, _, _, _, _, _, _, _, _, rfl, r.up⟩
  refine j_aload_n (pc := 1397) C dL_law_1397 1 rfl ?_
  refine j_aload_n (pc := 1398) C dL_law_1398 0 rfl ?_
  refine j_iload (pc := 1399) C dL_law_1399 4 rfl ?_
  refine j_iconst (pc := 1401) C dL_law_1401 ?_
  refine j_iadd (pc := 1402) C dL_law_1402 ?_
  refine j_sld (pc := 1403) C hX hbl hbA hn (by omega) (by omega) ea dL_law_1403 ?_
  refine j_aload_n (pc := 1404) C dL_law_1404 0 rfl ?_
  refine j_iload (pc := 1405) C dL_law_1405 4 rfl ?_
  refine j_iconst (pc := 1407) C dL_law_1407 ?_
  refine j_iadd (pc := 1408) C dL_law_1408 ?_
  refine j_sld (pc := 1409) C hX hbl hbA hn (by omega) (by omega) eb dL_law_1409 ?_
  refine j_aload_n (pc := 1410) C dL_law_1410 3 rfl ?_
  refine j_callSIX (pc := 1411) C htr hx (As := [.ref (h 0), .int (zI a), .int (zI b), .ref o9]) (rest := []) rfl (kL_greatestSum l D h c1 c2 c3 K Dm L lo hi su db S dy li so sp tu ah M o9 f9 a b r.1 (by omega) (by omega) (by omega)) (vx_cwSW 4 C.2.2.2.2.1 gL_law_L_greatestSum rfl rfl rfl (by decide +kernel) ⟨Nat.le_of_ble_eq_true rfl, Nat.le_of_ble_eq_true rfl⟩) dL_law_1411 rfl rfl (Nat.le_of_ble_eq_true rfl) ⟨by omega, by omega⟩ ?_
  refine j_istore (pc := 1414) C dL_law_1414 (by decide) [1, 2, 3, 4, 5, 0] rfl ?_
  refine j_aload_n (pc := 1416) C dL_law_1416 2 rfl ?_
  refine j_aload_n (pc := 1417) C dL_law_1417 0 rfl ?_
  refine j_iload (pc := 1418) C dL_law_1418 4 rfl ?_
  refine j_iconst (pc := 1420) C dL_law_1420 ?_
  refine j_iadd (pc := 1421) C dL_law_1421 ?_
  refine j_sld (pc := 1422) C hX hbl hbA hn (by omega) (by omega) ea dL_law_1422 ?_
  refine j_aload_n (pc := 1423) C dL_law_1423 0 rfl ?_
  refine j_iload (pc := 1424) C dL_law_1424 4 rfl ?_
  refine j_iconst (pc := 1426) C dL_law_1426 ?_
  refine j_iadd (pc := 1427) C dL_law_1427 ?_
  refine j_sld (pc := 1428) C hX hbl hbA hn (by omega) (by omega) eb dL_law_1428 ?_
  refine J.swap ?_
  refine j_callFI (pc := 1429) C (As := [.int (zI a), .int (zI b)]) (rest := []) (kX1_greatestSum l D k c1 c2 c3 th L K' Dm' S lo' hi' su' db' dy li so sp X ke se a b r.okm (by omega) (by omega) (by omega)) [0, 1, 2] rfl (cwV 2 C.2.2.2.2.1 gL_law_X1_greatestSum rfl rfl rfl (by decide +kernel) ⟨Nat.le_of_ble_eq_true rfl, Nat.le_of_ble_eq_true rfl⟩) 0 (ci := 1) rfl rfl rfl dL_law_1429 rfl rfl (Nat.le_of_ble_eq_true rfl) ⟨by omega, by omega⟩ ?_
  refine j_istore (pc := 1432) C dL_law_1432 (by decide) [1, 2, 3, 4, 5, 6, 0] rfl ?_
  refine j_aload_n (pc := 1434) C dL_law_1434 2 rfl ?_
  refine j_callFI (pc := 1435) C (As := []) (rest := []) (kX1_thrown l D k c1 c2 c3 _ _ _ _ _ _ _ _ _ _ _ _ _ _ _ _) [0, 1, 2] rfl (cwV 0 C.2.2.2.2.1 gL_law_X1_thrown rfl rfl rfl (by decide +kernel) ⟨Nat.le_of_ble_eq_true rfl, Nat.le_of_ble_eq_true rfl⟩) 0 (ci := 1) rfl rfl rfl dL_law_1435 rfl rfl (Nat.le_of_ble_eq_true rfl) ⟨by omega, by omega⟩ ?_
  refine j_iload (pc := 1438) C dL_law_1438 5 rfl ?_
  refine j_icmp_eq (pc := 1440) C 1445 (a := 0) (b := 0) dL_law_1440 (by decide) ⟨by decide, by decide⟩ ⟨by decide, by decide⟩ (fun _ => ?_) (fun q => absurd rfl q)
  refine j_iload (pc := 1445) C dL_law_1445 5 rfl ?_
  refine j_if_ne (pc := 1447) C 1462 dL_law_1447 (by decide) ⟨by decide, by decide⟩ (fun q => absurd rfl q) (fun _ => ?_)
  refine j_aload_n (pc := 1450) C dL_law_1450 3 rfl ?_
  refine j_iconst (pc := 1451) C dL_law_1451 ?_
  refine j_lald (pc := 1452) C 33 2 rfl rfl (by decide) (by decide) dL_law_1452 ?_
  refine j_iload (pc := 1453) C dL_law_1453 6 rfl ?_
  refine j_i2l (pc := 1455) C dL_law_1455 ?_
  refine j_lcmpE (pc := 1456) C (lw_eq (r.mat M X a (b + 1) (by omega) (by omega) (by omega) (by omega))) dL_law_1456 ?_
  refine j_if_eq (pc := 1457) C 1462 dL_law_1457 (by decide) ⟨by decide, by decide⟩ (fun _ => ?_) (fun q => absurd rfl q)
  refine j_goto (pc := 1462) C 1713 dL_law_1462 (by decide) ?_
  refine J.swap ?_
  refine J.pick [0, 1, 2, 3, 4] rfl ?_
  refine J.widen (k := cells + 1) (n := slots + 9) (by omega) (by omega) (kont _ ?_)
  exact ⟨_, _, _, _, _, _, _, _, _, _, _, _, _, _, _, _, _, _, _, _, _, _, _, _, _, _, rfl, r.up⟩
set_option maxHeartbeats 4000000 in
set_option maxRecDepth 100000 in
theorem lw_doubtBehind {p : Program} {l : Launch} {e : Env} {s : State} {m : MethodId} {args : Array Value} {below : List Frame} {meth : Method} {c : Code} {D : va_G} {A : Nat → Prop} {cells slots : Nat} {Q : State → Prop} {c1 c2 c3 : ClassId} {h k : Nat → Nat} {o9 sb n : Nat} {xs : Nat → Int32} (C : GC p s m args meth c cL_law 9 RL wsL_law D (tyS c1 c2 c3) A) (htr : l.stackTraces = false) (hx : xF A s s.heap) (hX : va_X sb n xs s s.heap) (hbl : sb < s.heap.size) (hbA : ¬ A sb) {i : Int} (i0 : 0 ≤ i) (i1 : i + 2 < n) (hn : n ≤ 1536) (hcl : cells + 1 ≤ room_1.cells) (hsl : slots + 9 ≤ room_1.slots) {t : Int} (t0 : 0 ≤ t) (t1 : t < 512) {K Dm : Int → Int} {L : Int} {lo hi su db : Int → Int} {S dy li so sp : Int} {tu ah : Int → Int} {M : Int → Int → Int} {f9 : Nat → Int64} {th : Int} {K' Dm' lo' hi' su' db' : Int → Int} {X : Int → Int → Int} {ke se : Int → Int} (r : Rel t K Dm L lo hi su db S li K' Dm' lo' hi' su' db') (kont : ∀ w, LI (t + 1) c1 c2 c3 h k o9 w → J p l e room_1 s m args below meth c 9 D A (cells + 1) (slots + 9) Q w [(0, .ref sb), (1, .ref (h 0)), (2, .ref (k 0)), (3, .ref o9), (4, .int (zI i))] 1713 []) : J p l e room_1 s m args below meth c 9 D A cells slots Q ((wG h c1 c2 K Dm L lo hi su db S dy li so sp tu ah M ++ [(o9, .inl (c3, 1, .inr (.inl f9)))]) ++ wN k c1 th L K' Dm' S lo' hi' su' db' dy li so sp X ke se) [(0, .ref sb), (1, .ref (h 0)), (2, .ref (k 0)), (3, .ref o9), (4, .int (zI i))] 1465 [] := by
  obtain ⟨⟨⟨hL0, hL⟩, ⟨hS0, hS⟩, hf, hs⟩, hd, hk, ⟨l0, l1⟩, eK, eD, e1, e2, e3, e4⟩ := id r
  obtain ⟨a, ea⟩ : ∃ a, (xs (i + 1).toNat).toInt = a := ⟨_, rfl⟩
  obtain ⟨b, eb⟩ : ∃ b, (xs (i + 2).toNat).toInt = b := ⟨_, rfl⟩
  have ha : zR a := by rw [← ea]; exact zR_of _
  have hb : zR b := by rw [← eb]; exact zR_of _
  obtain ⟨ha1, ha2⟩ := id ha
  obtain ⟨hb1, hb2⟩ := id hb
  by_cases hq0 : 0 ≤ a ∧ a ≤ b ∧ b < L
  case neg =>
    refine j_aload_n (pc := 1465) C dL_law_1465 1 rfl ?_
    refine j_aload_n (pc := 1466) C dL_law_1466 0 rfl ?_
    refine j_iload (pc := 1467) C dL_law_1467 4 rfl ?_
    refine j_iconst (pc := 1469) C dL_law_1469 ?_
    refine j_iadd (pc := 1470) C dL_law_1470 ?_
    refine j_sld (pc := 1471) C hX hbl hbA hn (by omega) (by omega) ea dL_law_1471 ?_
    refine j_aload_n (pc := 1472) C dL_law_1472 0 rfl ?_
    refine j_iload (pc := 1473) C dL_law_1473 4 rfl ?_
    refine j_iconst (pc := 1475) C dL_law_1475 ?_
    refine j_iadd (pc := 1476) C dL_law_1476 ?_
    refine j_sld (pc := 1477) C hX hbl hbA hn (by omega) (by omega) eb dL_law_1477 ?_
    refine j_aload_n (pc := 1478) C dL_law_1478 3 rfl ?_
    refine j_callSIX (pc := 1479) C htr hx (As := [.ref (h 0), .int (zI a), .int (zI b), .ref o9]) (rest := []) rfl (kL_doubtBehind_x1 l D h c1 c2 c3 K Dm L lo hi su db S dy li so sp tu ah M o9 f9 a b (by omega) (by omega) ha hb (by omega)) (vx_cwSW 4 C.2.2.2.2.1 gL_law_L_doubtBehind rfl rfl rfl (by decide +kernel) ⟨Nat.le_of_ble_eq_true rfl, Nat.le_of_ble_eq_true rfl⟩) dL_law_1479 rfl rfl (Nat.le_of_ble_eq_true rfl) ⟨by omega, by omega⟩ ?_
    refine j_istore (pc := 1482) C dL_law_1482 (by decide) [1, 2, 3, 4, 5, 0] rfl ?_
    refine j_aload_n (pc := 1484) C dL_law_1484 2 rfl ?_
    refine j_aload_n (pc := 1485) C dL_law_1485 0 rfl ?_
    refine j_iload (pc := 1486) C dL_law_1486 4 rfl ?_
    refine j_iconst (pc := 1488) C dL_law_1488 ?_
    refine j_iadd (pc := 1489) C dL_law_1489 ?_
    refine j_sld (pc := 1490) C hX hbl hbA hn (by omega) (by omega) ea dL_law_1490 ?_
    refine j_aload_n (pc := 1491) C dL_law_1491 0 rfl ?_
    refine j_iload (pc := 1492) C dL_law_1492 4 rfl ?_
    refine j_iconst (pc := 1494) C dL_law_1494 ?_
    refine j_iadd (pc := 1495) C dL_law_1495 ?_
    refine j_sld (pc := 1496) C hX hbl hbA hn (by omega) (by omega) eb dL_law_1496 ?_
    refine J.swap ?_
    refine j_callFI (pc := 1497) C (As := [.int (zI a), .int (zI b)]) (rest := []) (kX1_doubtBehind_no1 l D k c1 c2 c3 th L K' Dm' S lo' hi' su' db' dy li so sp X ke se a b (by omega) (by omega) ha hb (by omega)) [0, 1, 2] rfl (cwV 2 C.2.2.2.2.1 gL_law_X1_doubtBehind rfl rfl rfl (by decide +kernel) ⟨Nat.le_of_ble_eq_true rfl, Nat.le_of_ble_eq_true rfl⟩) 0 (ci := 1) rfl rfl rfl dL_law_1497 rfl rfl (Nat.le_of_ble_eq_true rfl) ⟨by omega, by omega⟩ ?_
    refine j_istore (pc := 1500) C dL_law_1500 (by decide) [1, 2, 3, 4, 5, 6, 0] rfl ?_
    refine j_aload_n (pc := 1502) C dL_law_1502 2 rfl ?_
    refine j_callFI (pc := 1503) C (As := []) (rest := []) (kX1_thrown l D k c1 c2 c3 _ _ _ _ _ _ _ _ _ _ _ _ _ _ _ _) [0, 1, 2] rfl (cwV 0 C.2.2.2.2.1 gL_law_X1_thrown rfl rfl rfl (by decide +kernel) ⟨Nat.le_of_ble_eq_true rfl, Nat.le_of_ble_eq_true rfl⟩) 0 (ci := 1) rfl rfl rfl dL_law_1503 rfl rfl (Nat.le_of_ble_eq_true rfl) ⟨by omega, by omega⟩ ?_
    refine j_iload (pc := 1506) C dL_law_1506 5 rfl ?_
    refine j_icmp_eq (pc := 1508) C 1513 (a := 1) (b := 1) dL_law_1508 (by decide) ⟨by decide, by decide⟩ ⟨by decide, by decide⟩ (fun _ => ?_) (fun q => absurd rfl q)
    refine j_iload (pc := 1513) C dL_law_1513 5 rfl ?_
    refine j_if_ne (pc := 1515) C 1530 dL_law_1515 (by decide) ⟨by decide, by decide⟩ (fun _ => ?_) (fun q => absurd q (by decide))
    refine j_goto (pc := 1530) C 1713 dL_law_1530 (by decide) ?_
    refine J.swap ?_
    refine J.pick [0, 1, 2, 3, 4] rfl ?_
    refine J.widen (k := cells + 1) (n := slots + 9) (by omega) (by omega) (kont _ ?_)
    exact ⟨_, _, _, _, _, _, _, _, _, _, _, _, _, _, _, _, _, _, _, _, _, _, _, _, _, _, rfl, r.up⟩
  refine j_aload_n (pc := 1465) C dL_law_1465 1 rfl ?_
  refine j_aload_n (pc := 1466) C dL_law_1466 0 rfl ?_
  refine j_iload (pc := 1467) C dL_law_1467 4 rfl ?_
  refine j_iconst (pc := 1469) C dL_law_1469 ?_
  refine j_iadd (pc := 1470) C dL_law_1470 ?_
  refine j_sld (pc := 1471) C hX hbl hbA hn (by omega) (by omega) ea dL_law_1471 ?_
  refine j_aload_n (pc := 1472) C dL_law_1472 0 rfl ?_
  refine j_iload (pc := 1473) C dL_law_1473 4 rfl ?_
  refine j_iconst (pc := 1475) C dL_law_1475 ?_
  refine j_iadd (pc := 1476) C dL_law_1476 ?_
  refine j_sld (pc := 1477) C hX hbl hbA hn (by omega) (by omega) eb dL_law_1477 ?_
  refine j_aload_n (pc := 1478) C dL_law_1478 3 rfl ?_
  refine j_callSIX (pc := 1479) C htr hx (As := [.ref (h 0), .int (zI a), .int (zI b), .ref o9]) (rest := []) rfl (kL_doubtBehind l D h c1 c2 c3 K Dm L lo hi su db S dy li so sp tu ah M o9 f9 a b r.1 (by omega) (by omega) (by omega)) (vx_cwSW 4 C.2.2.2.2.1 gL_law_L_doubtBehind rfl rfl rfl (by decide +kernel) ⟨Nat.le_of_ble_eq_true rfl, Nat.le_of_ble_eq_true rfl⟩) dL_law_1479 rfl rfl (Nat.le_of_ble_eq_true rfl) ⟨by omega, by omega⟩ ?_
  refine j_istore (pc := 1482) C dL_law_1482 (by decide) [1, 2, 3, 4, 5, 0] rfl ?_
  refine j_aload_n (pc := 1484) C dL_law_1484 2 rfl ?_
  refine j_aload_n (pc := 1485) C dL_law_1485 0 rfl ?_
  refine j_iload (pc := 1486) C dL_law_1486 4 rfl ?_
  refine j_iconst (pc := 1488) C dL_law_1488 ?_
  refine j_iadd (pc := 1489) C dL_law_1489 ?_
  refine j_sld (pc := 1490) C hX hbl hbA hn (by omega) (by omega) ea dL_law_1490 ?_
  refine j_aload_n (pc := 1491) C dL_law_1491 0 rfl ?_
  refine j_iload (pc := 1492) C dL_law_1492 4 rfl ?_
  refine j_iconst (pc := 1494) C dL_law_1494 ?_
  refine j_iadd (pc := 1495) C dL_law_1495 ?_
  refine j_sld (pc := 1496) C hX hbl hbA hn (by omega) (by omega) eb dL_law_1496 ?_
  refine J.swap ?_
  refine j_callFI (pc := 1497) C (As := [.int (zI a), .int (zI b)]) (rest := []) (kX1_doubtBehind l D k c1 c2 c3 th L K' Dm' S lo' hi' su' db' dy li so sp X ke se a b r.okm (by omega) (by omega) (by omega)) [0, 1, 2] rfl (cwV 2 C.2.2.2.2.1 gL_law_X1_doubtBehind rfl rfl rfl (by decide +kernel) ⟨Nat.le_of_ble_eq_true rfl, Nat.le_of_ble_eq_true rfl⟩) 0 (ci := 1) rfl rfl rfl dL_law_1497 rfl rfl (Nat.le_of_ble_eq_true rfl) ⟨by omega, by omega⟩ ?_
  refine j_istore (pc := 1500) C dL_law_1500 (by decide) [1, 2, 3, 4, 5, 6, 0] rfl ?_
  refine j_aload_n (pc := 1502) C dL_law_1502 2 rfl ?_
  refine j_callFI (pc := 1503) C (As := []) (rest := []) (kX1_thrown l D k c1 c2 c3 _ _ _ _ _ _ _ _ _ _ _ _ _ _ _ _) [0, 1, 2] rfl (cwV 0 C.2.2.2.2.1 gL_law_X1_thrown rfl rfl rfl (by decide +kernel) ⟨Nat.le_of_ble_eq_true rfl, Nat.le_of_ble_eq_true rfl⟩) 0 (ci := 1) rfl rfl rfl dL_law_1503 rfl rfl (Nat.le_of_ble_eq_true rfl) ⟨by omega, by omega⟩ ?_
  refine j_iload (pc := 1506) C dL_law_1506 5 rfl ?_
  refine j_icmp_eq (pc := 1508) C 1513 (a := 0) (b := 0) dL_law_1508 (by decide) ⟨by decide, by decide⟩ ⟨by decide, by decide⟩ (fun _ => ?_) (fun q => absurd rfl q)
  refine j_iload (pc := 1513) C dL_law_1513 5 rfl ?_
  refine j_if_ne (pc := 1515) C 1530 dL_law_1515 (by decide) ⟨by decide, by decide⟩ (fun q => absurd rfl q) (fun _ => ?_)
  refine j_aload_n (pc := 1518) C dL_law_1518 3 rfl ?_
  refine j_iconst (pc := 1519) C dL_law_1519 ?_
  refine j_lald (pc := 1520) C 33 2 rfl rfl (by decide) (by decide) dL_law_1520 ?_
  refine j_iload (pc := 1521) C dL_law_1521 6 rfl ?_
  refine j_i2l (pc := 1523) C dL_law_1523 ?_
  refine j_lcmpE (pc := 1524) C (lw_eq (r.behind M X a b (by omega) (by omega) (by omega))) dL_law_1524 ?_
  refine j_if_eq (pc := 1525) C 1530 dL_law_1525 (by decide) ⟨by decide, by decide⟩ (fun _ => ?_) (fun q => absurd rfl q)
  refine j_goto (pc := 1530) C 1713 dL_law_1530 (by decide) ?_
  refine J.swap ?_
  refine J.pick [0, 1, 2, 3, 4] rfl ?_
  refine J.widen (k := cells + 1) (n := slots + 9) (by omega) (by omega) (kont _ ?_)
  exact ⟨_, _, _, _, _, _, _, _, _, _, _, _, _, _, _, _, _, _, _, _, _, _, _, _, _, _, rfl, r.up⟩
set_option maxHeartbeats 4000000 in
set_option maxRecDepth 100000 in
theorem lw_bestToLookAt {p : Program} {l : Launch} {e : Env} {s : State} {m : MethodId} {args : Array Value} {below : List Frame} {meth : Method} {c : Code} {D : va_G} {A : Nat → Prop} {cells slots : Nat} {Q : State → Prop} {c1 c2 c3 : ClassId} {h k : Nat → Nat} {o9 sb n : Nat} {xs : Nat → Int32} (C : GC p s m args meth c cL_law 9 RL wsL_law D (tyS c1 c2 c3) A) (htr : l.stackTraces = false) (hx : xF A s s.heap) (hX : va_X sb n xs s s.heap) (hbl : sb < s.heap.size) (hbA : ¬ A sb) {i : Int} (i0 : 0 ≤ i) (i1 : i + 2 < n) (hn : n ≤ 1536) (hcl : cells + 1 ≤ room_1.cells) (hsl : slots + 9 ≤ room_1.slots) {t : Int} (t0 : 0 ≤ t) (t1 : t < 512) {K Dm : Int → Int} {L : Int} {lo hi su db : Int → Int} {S dy li so sp : Int} {tu ah : Int → Int} {M : Int → Int → Int} {f9 : Nat → Int64} {th : Int} {K' Dm' lo' hi' su' db' : Int → Int} {X : Int → Int → Int} {ke se : Int → Int} (r : Rel t K Dm L lo hi su db S li K' Dm' lo' hi' su' db') (kont : ∀ w, LI (t + 1) c1 c2 c3 h k o9 w → J p l e room_1 s m args below meth c 9 D A (cells + 1) (slots + 9) Q w [(0, .ref sb), (1, .ref (h 0)), (2, .ref (k 0)), (3, .ref o9), (4, .int (zI i))] 1713 []) : J p l e room_1 s m args below meth c 9 D A cells slots Q ((wG h c1 c2 K Dm L lo hi su db S dy li so sp tu ah M ++ [(o9, .inl (c3, 1, .inr (.inl f9)))]) ++ wN k c1 th L K' Dm' S lo' hi' su' db' dy li so sp X ke se) [(0, .ref sb), (1, .ref (h 0)), (2, .ref (k 0)), (3, .ref o9), (4, .int (zI i))] 1533 [] := by
  obtain ⟨⟨⟨hL0, hL⟩, ⟨hS0, hS⟩, hf, hs⟩, hd, hk, ⟨l0, l1⟩, eK, eD, e1, e2, e3, e4⟩ := id r
  obtain ⟨a, ea⟩ : ∃ a, (xs (i + 1).toNat).toInt = a := ⟨_, rfl⟩
  obtain ⟨b, eb⟩ : ∃ b, (xs (i + 2).toNat).toInt = b := ⟨_, rfl⟩
  have ha : zR a := by rw [← ea]; exact zR_of _
  have hb : zR b := by rw [← eb]; exact zR_of _
  obtain ⟨ha1, ha2⟩ := id ha
  obtain ⟨hb1, hb2⟩ := id hb
  by_cases hq0 : 0 < L
  case neg =>
    refine j_aload_n (pc := 1533) C dL_law_1533 1 rfl ?_
    refine j_aload_n (pc := 1534) C dL_law_1534 3 rfl ?_
    refine j_callSIX (pc := 1535) C htr hx (As := [.ref (h 0), .ref o9]) (rest := []) rfl (kL_bestToLookAt_x1 l D h c1 c2 c3 K Dm L lo hi su db S dy li so sp tu ah M o9 f9 (by omega)) (vx_cwSW 2 C.2.2.2.2.1 gL_law_L_bestToLookAt rfl rfl rfl (by decide +kernel) ⟨Nat.le_of_ble_eq_true rfl, Nat.le_of_ble_eq_true rfl⟩) dL_law_1535 rfl rfl (Nat.le_of_ble_eq_true rfl) ⟨by omega, by omega⟩ ?_
    refine j_istore (pc := 1538) C dL_law_1538 (by decide) [1, 2, 3, 4, 5, 0] rfl ?_
    refine j_aload_n (pc := 1540) C dL_law_1540 2 rfl ?_
    refine J.swap ?_
    refine j_callFI (pc := 1541) C (As := []) (rest := []) (kX1_bestToLookAt_no1 l D k c1 c2 c3 th L K' Dm' S lo' hi' su' db' dy li so sp X ke se (by omega)) [0, 1, 2] rfl (cwV 0 C.2.2.2.2.1 gL_law_X1_bestToLookAt rfl rfl rfl (by decide +kernel) ⟨Nat.le_of_ble_eq_true rfl, Nat.le_of_ble_eq_true rfl⟩) 0 (ci := 1) rfl rfl rfl dL_law_1541 rfl rfl (Nat.le_of_ble_eq_true rfl) ⟨by omega, by omega⟩ ?_
    refine j_istore (pc := 1544) C dL_law_1544 (by decide) [1, 2, 3, 4, 5, 6, 0] rfl ?_
    refine j_aload_n (pc := 1546) C dL_law_1546 2 rfl ?_
    refine j_callFI (pc := 1547) C (As := []) (rest := []) (kX1_thrown l D k c1 c2 c3 _ _ _ _ _ _ _ _ _ _ _ _ _ _ _ _) [0, 1, 2] rfl (cwV 0 C.2.2.2.2.1 gL_law_X1_thrown rfl rfl rfl (by decide +kernel) ⟨Nat.le_of_ble_eq_true rfl, Nat.le_of_ble_eq_true rfl⟩) 0 (ci := 1) rfl rfl rfl dL_law_1547 rfl rfl (Nat.le_of_ble_eq_true rfl) ⟨by omega, by omega⟩ ?_
    refine j_iload (pc := 1550) C dL_law_1550 5 rfl ?_
    refine j_icmp_eq (pc := 1552) C 1557 (a := 1) (b := 1) dL_law_1552 (by decide) ⟨by decide, by decide⟩ ⟨by decide, by decide⟩ (fun _ => ?_) (fun q => absurd rfl q)
    refine j_iload (pc := 1557) C dL_law_1557 5 rfl ?_
    refine j_if_ne (pc := 1559) C 1574 dL_law_1559 (by decide) ⟨by decide, by decide⟩ (fun _ => ?_) (fun q => absurd q (by decide))
    refine j_goto (pc := 1574) C 1713 dL_law_1574 (by decide) ?_
    refine J.swap ?_
    refine J.pick [0, 1, 2, 3, 4] rfl ?_
    refine J.widen (k := cells + 1) (n := slots + 9) (by omega) (by omega) (kont _ ?_)
    exact ⟨_, _, _, _, _, _, _, _, _, _, _, _, _, _, _, _, _, _, _, _, _, _, _, _, _, _, rfl, r.up⟩
  refine j_aload_n (pc := 1533) C dL_law_1533 1 rfl ?_
  refine j_aload_n (pc := 1534) C dL_law_1534 3 rfl ?_
  refine j_callSIX (pc := 1535) C htr hx (As := [.ref (h 0), .ref o9]) (rest := []) rfl (kL_bestToLookAt l D h c1 c2 c3 K Dm L lo hi su db S dy li so sp tu ah M o9 f9 r.1 (by omega)) (vx_cwSW 2 C.2.2.2.2.1 gL_law_L_bestToLookAt rfl rfl rfl (by decide +kernel) ⟨Nat.le_of_ble_eq_true rfl, Nat.le_of_ble_eq_true rfl⟩) dL_law_1535 rfl rfl (Nat.le_of_ble_eq_true rfl) ⟨by omega, by omega⟩ ?_
  refine j_istore (pc := 1538) C dL_law_1538 (by decide) [1, 2, 3, 4, 5, 0] rfl ?_
  refine j_aload_n (pc := 1540) C dL_law_1540 2 rfl ?_
  refine J.swap ?_
  refine j_callFI (pc := 1541) C (As := []) (rest := []) (kX1_bestToLookAt l D k c1 c2 c3 th L K' Dm' S lo' hi' su' db' dy li so sp X ke se r.okm (by omega) (r.bestV X)) [0, 1, 2] rfl (cwV 0 C.2.2.2.2.1 gL_law_X1_bestToLookAt rfl rfl rfl (by decide +kernel) ⟨Nat.le_of_ble_eq_true rfl, Nat.le_of_ble_eq_true rfl⟩) 0 (ci := 1) rfl rfl rfl dL_law_1541 rfl rfl (Nat.le_of_ble_eq_true rfl) ⟨by omega, by omega⟩ ?_
  refine j_istore (pc := 1544) C dL_law_1544 (by decide) [1, 2, 3, 4, 5, 6, 0] rfl ?_
  refine j_aload_n (pc := 1546) C dL_law_1546 2 rfl ?_
  refine j_callFI (pc := 1547) C (As := []) (rest := []) (kX1_thrown l D k c1 c2 c3 _ _ _ _ _ _ _ _ _ _ _ _ _ _ _ _) [0, 1, 2] rfl (cwV 0 C.2.2.2.2.1 gL_law_X1_thrown rfl rfl rfl (by decide +kernel) ⟨Nat.le_of_ble_eq_true rfl, Nat.le_of_ble_eq_true rfl⟩) 0 (ci := 1) rfl rfl rfl dL_law_1547 rfl rfl (Nat.le_of_ble_eq_true rfl) ⟨by omega, by omega⟩ ?_
  refine j_iload (pc := 1550) C dL_law_1550 5 rfl ?_
  refine j_icmp_eq (pc := 1552) C 1557 (a := 0) (b := 0) dL_law_1552 (by decide) ⟨by decide, by decide⟩ ⟨by decide, by decide⟩ (fun _ => ?_) (fun q => absurd rfl q)
  refine j_iload (pc := 1557) C dL_law_1557 5 rfl ?_
  refine j_if_ne (pc := 1559) C 1574 dL_law_1559 (by decide) ⟨by decide, by decide⟩ (fun q => absurd rfl q) (fun _ => ?_)
  refine j_aload_n (pc := 1562) C dL_law_1562 3 rfl ?_
  refine j_iconst (pc := 1563) C dL_law_1563 ?_
  refine j_lald (pc := 1564) C 33 2 rfl rfl (by decide) (by decide) dL_law_1564 ?_
  refine j_iload (pc := 1565) C dL_law_1565 6 rfl ?_
  refine j_i2l (pc := 1567) C dL_law_1567 ?_
  refine j_lcmpE (pc := 1568) C (lw_eq (r.best M X (by omega))) dL_law_1568 ?_
  refine j_if_eq (pc := 1569) C 1574 dL_law_1569 (by decide) ⟨by decide, by decide⟩ (fun _ => ?_) (fun q => absurd rfl q)
  refine j_goto (pc := 1574) C 1713 dL_law_1574 (by decide) ?_
  refine J.swap ?_
  refine J.pick [0, 1, 2, 3, 4] rfl ?_
  refine J.widen (k := cells + 1) (n := slots + 9) (by omega) (by omega) (kont _ ?_)
  exact ⟨_, _, _, _, _, _, _, _, _, _, _, _, _, _, _, _, _, _, _, _, _, _, _, _, _, _, rfl, r.up⟩
set_option maxHeartbeats 4000000 in
set_option maxRecDepth 100000 in
theorem lw_dampnessIn {p : Program} {l : Launch} {e : Env} {s : State} {m : MethodId} {args : Array Value} {below : List Frame} {meth : Method} {c : Code} {D : va_G} {A : Nat → Prop} {cells slots : Nat} {Q : State → Prop} {c1 c2 c3 : ClassId} {h k : Nat → Nat} {o9 sb n : Nat} {xs : Nat → Int32} (C : GC p s m args meth c cL_law 9 RL wsL_law D (tyS c1 c2 c3) A) (htr : l.stackTraces = false) (hx : xF A s s.heap) (hX : va_X sb n xs s s.heap) (hbl : sb < s.heap.size) (hbA : ¬ A sb) {i : Int} (i0 : 0 ≤ i) (i1 : i + 2 < n) (hn : n ≤ 1536) (hcl : cells + 1 ≤ room_1.cells) (hsl : slots + 9 ≤ room_1.slots) {t : Int} (t0 : 0 ≤ t) (t1 : t < 512) {K Dm : Int → Int} {L : Int} {lo hi su db : Int → Int} {S dy li so sp : Int} {tu ah : Int → Int} {M : Int → Int → Int} {f9 : Nat → Int64} {th : Int} {K' Dm' lo' hi' su' db' : Int → Int} {X : Int → Int → Int} {ke se : Int → Int} (r : Rel t K Dm L lo hi su db S li K' Dm' lo' hi' su' db') (kont : ∀ w, LI (t + 1) c1 c2 c3 h k o9 w → J p l e room_1 s m args below meth c 9 D A (cells + 1) (slots + 9) Q w [(0, .ref sb), (1, .ref (h 0)), (2, .ref (k 0)), (3, .ref o9), (4, .int (zI i))] 1713 []) : J p l e room_1 s m args below meth c 9 D A cells slots Q ((wG h c1 c2 K Dm L lo hi su db S dy li so sp tu ah M ++ [(o9, .inl (c3, 1, .inr (.inl f9)))]) ++ wN k c1 th L K' Dm' S lo' hi' su' db' dy li so sp X ke se) [(0, .ref sb), (1, .ref (h 0)), (2, .ref (k 0)), (3, .ref o9), (4, .int (zI i))] 1577 [] := by
  obtain ⟨⟨⟨hL0, hL⟩, ⟨hS0, hS⟩, hf, hs⟩, hd, hk, ⟨l0, l1⟩, eK, eD, e1, e2, e3, e4⟩ := id r
  obtain ⟨a, ea⟩ : ∃ a, (xs (i + 1).toNat).toInt = a := ⟨_, rfl⟩
  obtain ⟨b, eb⟩ : ∃ b, (xs (i + 2).toNat).toInt = b := ⟨_, rfl⟩
  have ha : zR a := by rw [← ea]; exact zR_of _
  have hb : zR b := by rw [← eb]; exact zR_of _
  obtain ⟨ha1, ha2⟩ := id ha
  obtain ⟨hb1, hb2⟩ := id hb
  by_cases hq0 : 0 ≤ a ∧ a < L
  case neg =>
    refine j_aload_n (pc := 1577) C dL_law_1577 1 rfl ?_
    refine j_aload_n (pc := 1578) C dL_law_1578 0 rfl ?_
    refine j_iload (pc := 1579) C dL_law_1579 4 rfl ?_
    refine j_iconst (pc := 1581) C dL_law_1581 ?_
    refine j_iadd (pc := 1582) C dL_law_1582 ?_
    refine j_sld (pc := 1583) C hX hbl hbA hn (by omega) (by omega) ea dL_law_1583 ?_
    refine j_aload_n (pc := 1584) C dL_law_1584 0 rfl ?_
    refine j_iload (pc := 1585) C dL_law_1585 4 rfl ?_
    refine j_iconst (pc := 1587) C dL_law_1587 ?_
    refine j_iadd (pc := 1588) C dL_law_1588 ?_
    refine j_sld (pc := 1589) C hX hbl hbA hn (by omega) (by omega) eb dL_law_1589 ?_
    refine j_aload_n (pc := 1590) C dL_law_1590 3 rfl ?_
    refine j_callSIX (pc := 1591) C htr hx (As := [.ref (h 0), .int (zI a), .int (zI b), .ref o9]) (rest := []) rfl (kL_dampnessIn_x1 l D h c1 c2 c3 K Dm L lo hi su db S dy li so sp tu ah M o9 f9 a b (by omega) (by omega) ha (by omega)) (vx_cwSW 4 C.2.2.2.2.1 gL_law_L_dampnessIn rfl rfl rfl (by decide +kernel) ⟨Nat.le_of_ble_eq_true rfl, Nat.le_of_ble_eq_true rfl⟩) dL_law_1591 rfl rfl (Nat.le_of_ble_eq_true rfl) ⟨by omega, by omega⟩ ?_
    refine j_istore (pc := 1594) C dL_law_1594 (by decide) [1, 2, 3, 4, 5, 0] rfl ?_
    refine j_aload_n (pc := 1596) C dL_law_1596 2 rfl ?_
    refine j_aload_n (pc := 1597) C dL_law_1597 0 rfl ?_
    refine j_iload (pc := 1598) C dL_law_1598 4 rfl ?_
    refine j_iconst (pc := 1600) C dL_law_1600 ?_
    refine j_iadd (pc := 1601) C dL_law_1601 ?_
    refine j_sld (pc := 1602) C hX hbl hbA hn (by omega) (by omega) ea dL_law_1602 ?_
    refine j_aload_n (pc := 1603) C dL_law_1603 0 rfl ?_
    refine j_iload (pc := 1604) C dL_law_1604 4 rfl ?_
    refine j_iconst (pc := 1606) C dL_law_1606 ?_
    refine j_iadd (pc := 1607) C dL_law_1607 ?_
    refine j_sld (pc := 1608) C hX hbl hbA hn (by omega) (by omega) eb dL_law_1608 ?_
    refine J.swap ?_
    refine j_callFI (pc := 1609) C (As := [.int (zI a), .int (zI b)]) (rest := []) (kX1_dampnessIn_no1 l D k c1 c2 c3 th L K' Dm' S lo' hi' su' db' dy li so sp X ke se a b (by omega) (by omega) ha (by omega)) [0, 1, 2] rfl (cwV 2 C.2.2.2.2.1 gL_law_X1_dampnessIn rfl rfl rfl (by decide +kernel) ⟨Nat.le_of_ble_eq_true rfl, Nat.le_of_ble_eq_true rfl⟩) 0 (ci := 1) rfl rfl rfl dL_law_1609 rfl rfl (Nat.le_of_ble_eq_true rfl) ⟨by omega, by omega⟩ ?_
    refine j_istore (pc := 1612) C dL_law_1612 (by decide) [1, 2, 3, 4, 5, 6, 0] rfl ?_
    refine j_aload_n (pc := 1614) C dL_law_1614 2 rfl ?_
    refine j_callFI (pc := 1615) C (As := []) (rest := []) (kX1_thrown l D k c1 c2 c3 _ _ _ _ _ _ _ _ _ _ _ _ _ _ _ _) [0, 1, 2] rfl (cwV 0 C.2.2.2.2.1 gL_law_X1_thrown rfl rfl rfl (by decide +kernel) ⟨Nat.le_of_ble_eq_true rfl, Nat.le_of_ble_eq_true rfl⟩) 0 (ci := 1) rfl rfl rfl dL_law_1615 rfl rfl (Nat.le_of_ble_eq_true rfl) ⟨by omega, by omega⟩ ?_
    refine j_iload (pc := 1618) C dL_law_1618 5 rfl ?_
    refine j_icmp_eq (pc := 1620) C 1625 (a := 1) (b := 1) dL_law_1620 (by decide) ⟨by decide, by decide⟩ ⟨by decide, by decide⟩ (fun _ => ?_) (fun q => absurd rfl q)
    refine j_iload (pc := 1625) C dL_law_1625 5 rfl ?_
    refine j_if_ne (pc := 1627) C 1642 dL_law_1627 (by decide) ⟨by decide, by decide⟩ (fun _ => ?_) (fun q => absurd q (by decide))
    refine j_goto (pc := 1642) C 1713 dL_law_1642 (by decide) ?_
    refine J.swap ?_
    refine J.pick [0, 1, 2, 3, 4] rfl ?_
    refine J.widen (k := cells + 1) (n := slots + 9) (by omega) (by omega) (kont _ ?_)
    exact ⟨_, _, _, _, _, _, _, _, _, _, _, _, _, _, _, _, _, _, _, _, _, _, _, _, _, _, rfl, r.up⟩
  by_cases hq1 : 1 ≤ b ∧ b ≤ 50
  case neg =>
    refine j_aload_n (pc := 1577) C dL_law_1577 1 rfl ?_
    refine j_aload_n (pc := 1578) C dL_law_1578 0 rfl ?_
    refine j_iload (pc := 1579) C dL_law_1579 4 rfl ?_
    refine j_iconst (pc := 1581) C dL_law_1581 ?_
    refine j_iadd (pc := 1582) C dL_law_1582 ?_
    refine j_sld (pc := 1583) C hX hbl hbA hn (by omega) (by omega) ea dL_law_1583 ?_
    refine j_aload_n (pc := 1584) C dL_law_1584 0 rfl ?_
    refine j_iload (pc := 1585) C dL_law_1585 4 rfl ?_
    refine j_iconst (pc := 1587) C dL_law_1587 ?_
    refine j_iadd (pc := 1588) C dL_law_1588 ?_
    refine j_sld (pc := 1589) C hX hbl hbA hn (by omega) (by omega) eb dL_law_1589 ?_
    refine j_aload_n (pc := 1590) C dL_law_1590 3 rfl ?_
    refine j_callSIX (pc := 1591) C htr hx (As := [.ref (h 0), .int (zI a), .int (zI b), .ref o9]) (rest := []) rfl (kL_dampnessIn_x2 l D h c1 c2 c3 K Dm L lo hi su db S dy li so sp tu ah M o9 f9 a b (by omega) (by omega) (by omega) hb (by omega)) (vx_cwSW 4 C.2.2.2.2.1 gL_law_L_dampnessIn rfl rfl rfl (by decide +kernel) ⟨Nat.le_of_ble_eq_true rfl, Nat.le_of_ble_eq_true rfl⟩) dL_law_1591 rfl rfl (Nat.le_of_ble_eq_true rfl) ⟨by omega, by omega⟩ ?_
    refine j_istore (pc := 1594) C dL_law_1594 (by decide) [1, 2, 3, 4, 5, 0] rfl ?_
    refine j_aload_n (pc := 1596) C dL_law_1596 2 rfl ?_
    refine j_aload_n (pc := 1597) C dL_law_1597 0 rfl ?_
    refine j_iload (pc := 1598) C dL_law_1598 4 rfl ?_
    refine j_iconst (pc := 1600) C dL_law_1600 ?_
    refine j_iadd (pc := 1601) C dL_law_1601 ?_
    refine j_sld (pc := 1602) C hX hbl hbA hn (by omega) (by omega) ea dL_law_1602 ?_
    refine j_aload_n (pc := 1603) C dL_law_1603 0 rfl ?_
    refine j_iload (pc := 1604) C dL_law_1604 4 rfl ?_
    refine j_iconst (pc := 1606) C dL_law_1606 ?_
    refine j_iadd (pc := 1607) C dL_law_1607 ?_
    refine j_sld (pc := 1608) C hX hbl hbA hn (by omega) (by omega) eb dL_law_1608 ?_
    refine J.swap ?_
    refine j_callFI (pc := 1609) C (As := [.int (zI a), .int (zI b)]) (rest := []) (kX1_dampnessIn_no2 l D k c1 c2 c3 th L K' Dm' S lo' hi' su' db' dy li so sp X ke se a b (by omega) (by omega) (by omega) hb (by omega)) [0, 1, 2] rfl (cwV 2 C.2.2.2.2.1 gL_law_X1_dampnessIn rfl rfl rfl (by decide +kernel) ⟨Nat.le_of_ble_eq_true rfl, Nat.le_of_ble_eq_true rfl⟩) 0 (ci := 1) rfl rfl rfl dL_law_1609 rfl rfl (Nat.le_of_ble_eq_true rfl) ⟨by omega, by omega⟩ ?_
    refine j_istore (pc := 1612) C dL_law_1612 (by decide) [1, 2, 3, 4, 5, 6, 0] rfl ?_
    refine j_aload_n (pc := 1614) C dL_law_1614 2 rfl ?_
    refine j_callFI (pc := 1615) C (As := []) (rest := []) (kX1_thrown l D k c1 c2 c3 _ _ _ _ _ _ _ _ _ _ _ _ _ _ _ _) [0, 1, 2] rfl (cwV 0 C.2.2.2.2.1 gL_law_X1_thrown rfl rfl rfl (by decide +kernel) ⟨Nat.le_of_ble_eq_true rfl, Nat.le_of_ble_eq_true rfl⟩) 0 (ci := 1) rfl rfl rfl dL_law_1615 rfl rfl (Nat.le_of_ble_eq_true rfl) ⟨by omega, by omega⟩ ?_
    refine j_iload (pc := 1618) C dL_law_1618 5 rfl ?_
    refine j_icmp_eq (pc := 1620) C 1625 (a := 2) (b := 2) dL_law_1620 (by decide) ⟨by decide, by decide⟩ ⟨by decide, by decide⟩ (fun _ => ?_) (fun q => absurd rfl q)
    refine j_iload (pc := 1625) C dL_law_1625 5 rfl ?_
    refine j_if_ne (pc := 1627) C 1642 dL_law_1627 (by decide) ⟨by decide, by decide⟩ (fun _ => ?_) (fun q => absurd q (by decide))
    refine j_goto (pc := 1642) C 1713 dL_law_1642 (by decide) ?_
    refine J.swap ?_
    refine J.pick [0, 1, 2, 3, 4] rfl ?_
    refine J.widen (k := cells + 1) (n := slots + 9) (by omega) (by omega) (kont _ ?_)
    exact ⟨_, _, _, _, _, _, _, _, _, _, _, _, _, _, _, _, _, _, _, _, _, _, _, _, _, _, rfl, r.up⟩
  refine j_aload_n (pc := 1577) C dL_law_1577 1 rfl ?_
  refine j_aload_n (pc := 1578) C dL_law_1578 0 rfl ?_
  refine j_iload (pc := 1579) C dL_law_1579 4 rfl ?_
  refine j_iconst (pc := 1581) C dL_law_1581 ?_
  refine j_iadd (pc := 1582) C dL_law_1582 ?_
  refine j_sld (pc := 1583) C hX hbl hbA hn (by omega) (by omega) ea dL_law_1583 ?_
  refine j_aload_n (pc := 1584) C dL_law_1584 0 rfl ?_
  refine j_iload (pc := 1585) C dL_law_1585 4 rfl ?_
  refine j_iconst (pc := 1587) C dL_law_1587 ?_
  refine j_iadd (pc := 1588) C dL_law_1588 ?_
  refine j_sld (pc := 1589) C hX hbl hbA hn (by omega) (by omega) eb dL_law_1589 ?_
  refine j_aload_n (pc := 1590) C dL_law_1590 3 rfl ?_
  refine j_callSIX (pc := 1591) C htr hx (As := [.ref (h 0), .int (zI a), .int (zI b), .ref o9]) (rest := []) rfl (kL_dampnessIn l D h c1 c2 c3 K Dm L lo hi su db S dy li so sp tu ah M o9 f9 a b (by omega) (by omega) r.1.2.2.1 (by omega) (by omega) (by omega) (by omega)) (vx_cwSW 4 C.2.2.2.2.1 gL_law_L_dampnessIn rfl rfl rfl (by decide +kernel) ⟨Nat.le_of_ble_eq_true rfl, Nat.le_of_ble_eq_true rfl⟩) dL_law_1591 rfl rfl (Nat.le_of_ble_eq_true rfl) ⟨by omega, by omega⟩ ?_
  refine j_istore (pc := 1594) C dL_law_1594 (by decide) [1, 2, 3, 4, 5, 0] rfl ?_
  refine j_aload_n (pc := 1596) C dL_law_1596 2 rfl ?_
  refine j_aload_n (pc := 1597) C dL_law_1597 0 rfl ?_
  refine j_iload (pc := 1598) C dL_law_1598 4 rfl ?_
  refine j_iconst (pc := 1600) C dL_law_1600 ?_
  refine j_iadd (pc := 1601) C dL_law_1601 ?_
  refine j_sld (pc := 1602) C hX hbl hbA hn (by omega) (by omega) ea dL_law_1602 ?_
  refine j_aload_n (pc := 1603) C dL_law_1603 0 rfl ?_
  refine j_iload (pc := 1604) C dL_law_1604 4 rfl ?_
  refine j_iconst (pc := 1606) C dL_law_1606 ?_
  refine j_iadd (pc := 1607) C dL_law_1607 ?_
  refine j_sld (pc := 1608) C hX hbl hbA hn (by omega) (by omega) eb dL_law_1608 ?_
  refine J.swap ?_
  refine j_callFI (pc := 1609) C (As := [.int (zI a), .int (zI b)]) (rest := []) (kX1_dampnessIn l D k c1 c2 c3 th L K' Dm' S lo' hi' su' db' dy li so sp X ke se a b (by omega) (by omega) r.okm.2.2.1 (by omega) (by omega) (by omega) (by omega)) [0, 1, 2] rfl (cwV 2 C.2.2.2.2.1 gL_law_X1_dampnessIn rfl rfl rfl (by decide +kernel) ⟨Nat.le_of_ble_eq_true rfl, Nat.le_of_ble_eq_true rfl⟩) 0 (ci := 1) rfl rfl rfl dL_law_1609 rfl rfl (Nat.le_of_ble_eq_true rfl) ⟨by omega, by omega⟩ ?_
  refine j_istore (pc := 1612) C dL_law_1612 (by decide) [1, 2, 3, 4, 5, 6, 0] rfl ?_
  refine j_aload_n (pc := 1614) C dL_law_1614 2 rfl ?_
  refine j_callFI (pc := 1615) C (As := []) (rest := []) (kX1_thrown l D k c1 c2 c3 _ _ _ _ _ _ _ _ _ _ _ _ _ _ _ _) [0, 1, 2] rfl (cwV 0 C.2.2.2.2.1 gL_law_X1_thrown rfl rfl rfl (by decide +kernel) ⟨Nat.le_of_ble_eq_true rfl, Nat.le_of_ble_eq_true rfl⟩) 0 (ci := 1) rfl rfl rfl dL_law_1615 rfl rfl (Nat.le_of_ble_eq_true rfl) ⟨by omega, by omega⟩ ?_
  refine j_iload (pc := 1618) C dL_law_1618 5 rfl ?_
  refine j_icmp_eq (pc := 1620) C 1625 (a := 0) (b := 0) dL_law_1620 (by decide) ⟨by decide, by decide⟩ ⟨by decide, by decide⟩ (fun _ => ?_) (fun q => absurd rfl q)
  refine j_iload (pc := 1625) C dL_law_1625 5 rfl ?_
  refine j_if_ne (pc := 1627) C 1642 dL_law_1627 (by decide) ⟨by decide, by decide⟩ (fun q => absurd rfl q) (fun _ => ?_)
  refine j_aload_n (pc := 1630) C dL_law_1630 3 rfl ?_
  refine j_iconst (pc := 1631) C dL_law_1631 ?_
  refine j_lald (pc := 1632) C 33 2 rfl rfl (by decide) (by decide) dL_law_1632 ?_
  refine j_iload (pc := 1633) C dL_law_1633 6 rfl ?_
  refine j_i2l (pc := 1635) C dL_law_1635 ?_
  refine j_lcmpE (pc := 1636) C (lw_eq (dayF_eq (r.mix ah) b a (by omega) (by omega))) dL_law_1636 ?_
  refine j_if_eq (pc := 1637) C 1642 dL_law_1637 (by decide) ⟨by decide, by decide⟩ (fun _ => ?_) (fun q => absurd rfl q)
  refine j_goto (pc := 1642) C 1713 dL_law_1642 (by decide) ?_
  refine J.swap ?_
  refine J.pick [0, 1, 2, 3, 4] rfl ?_
  refine J.widen (k := cells + 1) (n := slots + 9) (by omega) (by omega) (kont _ ?_)
  exact ⟨_, _, _, _, _, _, _, _, _, _, _, _, _, _, _, _, _, _, _, _, _, _, _, _, _, _, rfl, (r.up.dm _ (eD.back hL _))⟩
set_option maxHeartbeats 4000000 in
set_option maxRecDepth 100000 in
theorem lw_isKnown {p : Program} {l : Launch} {e : Env} {s : State} {m : MethodId} {args : Array Value} {below : List Frame} {meth : Method} {c : Code} {D : va_G} {A : Nat → Prop} {cells slots : Nat} {Q : State → Prop} {c1 c2 c3 : ClassId} {h k : Nat → Nat} {o9 sb n : Nat} {xs : Nat → Int32} (C : GC p s m args meth c cL_law 9 RL wsL_law D (tyS c1 c2 c3) A) (htr : l.stackTraces = false) (hx : xF A s s.heap) (hX : va_X sb n xs s s.heap) (hbl : sb < s.heap.size) (hbA : ¬ A sb) {i : Int} (i0 : 0 ≤ i) (i1 : i + 2 < n) (hn : n ≤ 1536) (hcl : cells + 1 ≤ room_1.cells) (hsl : slots + 9 ≤ room_1.slots) {t : Int} (t0 : 0 ≤ t) (t1 : t < 512) {K Dm : Int → Int} {L : Int} {lo hi su db : Int → Int} {S dy li so sp : Int} {tu ah : Int → Int} {M : Int → Int → Int} {f9 : Nat → Int64} {th : Int} {K' Dm' lo' hi' su' db' : Int → Int} {X : Int → Int → Int} {ke se : Int → Int} (r : Rel t K Dm L lo hi su db S li K' Dm' lo' hi' su' db') (kont : ∀ w, LI (t + 1) c1 c2 c3 h k o9 w → J p l e room_1 s m args below meth c 9 D A (cells + 1) (slots + 9) Q w [(0, .ref sb), (1, .ref (h 0)), (2, .ref (k 0)), (3, .ref o9), (4, .int (zI i))] 1713 []) : J p l e room_1 s m args below meth c 9 D A cells slots Q ((wG h c1 c2 K Dm L lo hi su db S dy li so sp tu ah M ++ [(o9, .inl (c3, 1, .inr (.inl f9)))]) ++ wN k c1 th L K' Dm' S lo' hi' su' db' dy li so sp X ke se) [(0, .ref sb), (1, .ref (h 0)), (2, .ref (k 0)), (3, .ref o9), (4, .int (zI i))] 1183 [] := by
  obtain ⟨⟨⟨hL0, hL⟩, ⟨hS0, hS⟩, hf, hs⟩, hd, hk, ⟨l0, l1⟩, eK, eD, e1, e2, e3, e4⟩ := id r
  obtain ⟨a, ea⟩ : ∃ a, (xs (i + 1).toNat).toInt = a := ⟨_, rfl⟩
  obtain ⟨b, eb⟩ : ∃ b, (xs (i + 2).toNat).toInt = b := ⟨_, rfl⟩
  have ha : zR a := by rw [← ea]; exact zR_of _
  have hb : zR b := by rw [← eb]; exact zR_of _
  obtain ⟨ha1, ha2⟩ := id ha
  obtain ⟨hb1, hb2⟩ := id hb
  by_cases hq0 : 0 ≤ a ∧ a < L
  case neg =>
    refine j_aload_n (pc := 1183) C dL_law_1183 1 rfl ?_
    refine j_aload_n (pc := 1184) C dL_law_1184 0 rfl ?_
    refine j_iload (pc := 1185) C dL_law_1185 4 rfl ?_
    refine j_iconst (pc := 1187) C dL_law_1187 ?_
    refine j_iadd (pc := 1188) C dL_law_1188 ?_
    refine j_sld (pc := 1189) C hX hbl hbA hn (by omega) (by omega) ea dL_law_1189 ?_
    refine j_aload_n (pc := 1190) C dL_law_1190 3 rfl ?_
    refine j_callSIX (pc := 1191) C htr hx (As := [.ref (h 0), .int (zI a), .ref o9]) (rest := []) rfl (kL_isKnown_x1 l D h c1 c2 c3 K Dm L lo hi su db S dy li so sp tu ah M o9 f9 a (by omega) (by omega) ha (by omega)) (vx_cwSW 3 C.2.2.2.2.1 gL_law_L_isKnown rfl rfl rfl (by decide +kernel) ⟨Nat.le_of_ble_eq_true rfl, Nat.le_of_ble_eq_true rfl⟩) dL_law_1191 rfl rfl (Nat.le_of_ble_eq_true rfl) ⟨by omega, by omega⟩ ?_
    refine j_istore (pc := 1194) C dL_law_1194 (by decide) [1, 2, 3, 4, 5, 0] rfl ?_
    refine j_aload_n (pc := 1196) C dL_law_1196 2 rfl ?_
    refine j_aload_n (pc := 1197) C dL_law_1197 0 rfl ?_
    refine j_iload (pc := 1198) C dL_law_1198 4 rfl ?_
    refine j_iconst (pc := 1200) C dL_law_1200 ?_
    refine j_iadd (pc := 1201) C dL_law_1201 ?_
    refine j_sld (pc := 1202) C hX hbl hbA hn (by omega) (by omega) ea dL_law_1202 ?_
    refine J.swap ?_
    refine j_callFI (pc := 1203) C (As := [.int (zI a)]) (rest := []) (kX1_isKnown_no1 l D k c1 c2 c3 th L K' Dm' S lo' hi' su' db' dy li so sp X ke se a (by omega) (by omega) ha (by omega)) [0, 1, 2] rfl (cwV 1 C.2.2.2.2.1 gL_law_X1_isKnown rfl rfl rfl (by decide +kernel) ⟨Nat.le_of_ble_eq_true rfl, Nat.le_of_ble_eq_true rfl⟩) 0 (ci := 1) rfl rfl rfl dL_law_1203 rfl rfl (Nat.le_of_ble_eq_true rfl) ⟨by omega, by omega⟩ ?_
    refine j_istore (pc := 1206) C dL_law_1206 (by decide) [1, 2, 3, 4, 5, 6, 0] rfl ?_
    refine j_aload_n (pc := 1208) C dL_law_1208 2 rfl ?_
    refine j_callFI (pc := 1209) C (As := []) (rest := []) (kX1_thrown l D k c1 c2 c3 _ _ _ _ _ _ _ _ _ _ _ _ _ _ _ _) [0, 1, 2] rfl (cwV 0 C.2.2.2.2.1 gL_law_X1_thrown rfl rfl rfl (by decide +kernel) ⟨Nat.le_of_ble_eq_true rfl, Nat.le_of_ble_eq_true rfl⟩) 0 (ci := 1) rfl rfl rfl dL_law_1209 rfl rfl (Nat.le_of_ble_eq_true rfl) ⟨by omega, by omega⟩ ?_
    refine j_iload (pc := 1212) C dL_law_1212 5 rfl ?_
    refine j_icmp_eq (pc := 1214) C 1219 (a := 1) (b := 1) dL_law_1214 (by decide) ⟨by decide, by decide⟩ ⟨by decide, by decide⟩ (fun _ => ?_) (fun q => absurd rfl q)
    refine j_iload (pc := 1219) C dL_law_1219 5 rfl ?_
    refine j_if_ne (pc := 1221) C 1243 dL_law_1221 (by decide) ⟨by decide, by decide⟩ (fun _ => ?_) (fun q => absurd q (by decide))
    refine j_goto (pc := 1243) C 1713 dL_law_1243 (by decide) ?_
    refine J.swap ?_
    refine J.pick [0, 1, 2, 3, 4] rfl ?_
    refine J.widen (k := cells + 1) (n := slots + 9) (by omega) (by omega) (kont _ ?_)
    exact ⟨_, _, _, _, _, _, _, _, _, _, _, _, _, _, _, _, _, _, _, _, _, _, _, _, _, _, rfl, r.up⟩
  by_cases hkn : -((wg L lo hi su db M S) (a + 1) a) = (wg L lo hi su db M S) a (a + 1)
  case neg =>
    refine j_aload_n (pc := 1183) C dL_law_1183 1 rfl ?_
    refine j_aload_n (pc := 1184) C dL_law_1184 0 rfl ?_
    refine j_iload (pc := 1185) C dL_law_1185 4 rfl ?_
    refine j_iconst (pc := 1187) C dL_law_1187 ?_
    refine j_iadd (pc := 1188) C dL_law_1188 ?_
    refine j_sld (pc := 1189) C hX hbl hbA hn (by omega) (by omega) ea dL_law_1189 ?_
    refine j_aload_n (pc := 1190) C dL_law_1190 3 rfl ?_
    refine j_callSIX (pc := 1191) C htr hx (As := [.ref (h 0), .int (zI a), .ref o9]) (rest := []) rfl (kL_isKnown_f l D h c1 c2 c3 K Dm L lo hi su db S dy li so sp tu ah M o9 f9 a r.1 (by omega) (by omega) hkn) (vx_cwSW 3 C.2.2.2.2.1 gL_law_L_isKnown rfl rfl rfl (by decide +kernel) ⟨Nat.le_of_ble_eq_true rfl, Nat.le_of_ble_eq_true rfl⟩) dL_law_1191 rfl rfl (Nat.le_of_ble_eq_true rfl) ⟨by omega, by omega⟩ ?_
    refine j_istore (pc := 1194) C dL_law_1194 (by decide) [1, 2, 3, 4, 5, 0] rfl ?_
    refine j_aload_n (pc := 1196) C dL_law_1196 2 rfl ?_
    refine j_aload_n (pc := 1197) C dL_law_1197 0 rfl ?_
    refine j_iload (pc := 1198) C dL_law_1198 4 rfl ?_
    refine j_iconst (pc := 1200) C dL_law_1200 ?_
    refine j_iadd (pc := 1201) C dL_law_1201 ?_
    refine j_sld (pc := 1202) C hX hbl hbA hn (by omega) (by omega) ea dL_law_1202 ?_
    refine J.swap ?_
    refine j_callFI (pc := 1203) C (As := [.int (zI a)]) (rest := []) (kX1_isKnown l D k c1 c2 c3 th L K' Dm' S lo' hi' su' db' dy li so sp X ke se a r.okm (by omega) (by omega)) [0, 1, 2] rfl (cwV 1 C.2.2.2.2.1 gL_law_X1_isKnown rfl rfl rfl (by decide +kernel) ⟨Nat.le_of_ble_eq_true rfl, Nat.le_of_ble_eq_true rfl⟩) 0 (ci := 1) rfl rfl rfl dL_law_1203 rfl rfl (Nat.le_of_ble_eq_true rfl) ⟨by omega, by omega⟩ ?_
    rw [show (if -((fw (bgn X L lo' hi' su' db' S) L (L + 1)) (a + 1) a) = (fw (bgn X L lo' hi' su' db' S) L (L + 1)) a (a + 1) then (1 : Int) else 0) = 0 from if_neg (by rw [← (r.mat M X (a + 1) a (by omega) (by omega) (by omega) (by omega)), ← (r.mat M X a (a + 1) (by omega) (by omega) (by omega) (by omega))]; exact hkn)]
    refine j_istore (pc := 1206) C dL_law_1206 (by decide) [1, 2, 3, 4, 5, 6, 0] rfl ?_
    refine j_aload_n (pc := 1208) C dL_law_1208 2 rfl ?_
    refine j_callFI (pc := 1209) C (As := []) (rest := []) (kX1_thrown l D k c1 c2 c3 _ _ _ _ _ _ _ _ _ _ _ _ _ _ _ _) [0, 1, 2] rfl (cwV 0 C.2.2.2.2.1 gL_law_X1_thrown rfl rfl rfl (by decide +kernel) ⟨Nat.le_of_ble_eq_true rfl, Nat.le_of_ble_eq_true rfl⟩) 0 (ci := 1) rfl rfl rfl dL_law_1209 rfl rfl (Nat.le_of_ble_eq_true rfl) ⟨by omega, by omega⟩ ?_
    refine j_iload (pc := 1212) C dL_law_1212 5 rfl ?_
    refine j_icmp_eq (pc := 1214) C 1219 (a := 0) (b := 0) dL_law_1214 (by decide) ⟨by decide, by decide⟩ ⟨by decide, by decide⟩ (fun _ => ?_) (fun q => absurd rfl q)
    refine j_iload (pc := 1219) C dL_law_1219 5 rfl ?_
    refine j_if_ne (pc := 1221) C 1243 dL_law_1221 (by decide) ⟨by decide, by decide⟩ (fun q => absurd rfl q) (fun _ => ?_)
    refine j_aload_n (pc := 1224) C dL_law_1224 3 rfl ?_
    refine j_iconst (pc := 1225) C dL_law_1225 ?_
    refine j_lald (pc := 1226) C 33 2 rfl rfl (by decide) (by decide) dL_law_1226 ?_
    refine j_iload (pc := 1227) C dL_law_1227 6 rfl ?_
    refine j_if_eq (pc := 1229) C 1236 dL_law_1229 (by decide) ⟨by decide, by decide⟩ (fun _ => ?_) (fun q => absurd rfl q)
    refine j_lconst (pc := 1236) C (v := 0) dL_law_1236 (by decide +kernel) ?_
    refine j_lcmpE (pc := 1237) C (by unfold vp_updL; rw [if_pos rfl]) dL_law_1237 ?_
    refine j_if_eq (pc := 1238) C 1243 dL_law_1238 (by decide) ⟨by decide, by decide⟩ (fun _ => ?_) (fun q => absurd rfl q)
    refine j_goto (pc := 1243) C 1713 dL_law_1243 (by decide) ?_
    refine J.swap ?_
    refine J.pick [0, 1, 2, 3, 4] rfl ?_
    refine J.widen (k := cells + 1) (n := slots + 9) (by omega) (by omega) (kont _ ?_)
    exact ⟨_, _, _, _, _, _, _, _, _, _, _, _, _, _, _, _, _, _, _, _, _, _, _, _, _, _, rfl, r.up⟩
  refine j_aload_n (pc := 1183) C dL_law_1183 1 rfl ?_
  refine j_aload_n (pc := 1184) C dL_law_1184 0 rfl ?_
  refine j_iload (pc := 1185) C dL_law_1185 4 rfl ?_
  refine j_iconst (pc := 1187) C dL_law_1187 ?_
  refine j_iadd (pc := 1188) C dL_law_1188 ?_
  refine j_sld (pc := 1189) C hX hbl hbA hn (by omega) (by omega) ea dL_law_1189 ?_
  refine j_aload_n (pc := 1190) C dL_law_1190 3 rfl ?_
  refine j_callSIX (pc := 1191) C htr hx (As := [.ref (h 0), .int (zI a), .ref o9]) (rest := []) rfl (kL_isKnown l D h c1 c2 c3 K Dm L lo hi su db S dy li so sp tu ah M o9 f9 a r.1 (by omega) (by omega) hkn) (vx_cwSW 3 C.2.2.2.2.1 gL_law_L_isKnown rfl rfl rfl (by decide +kernel) ⟨Nat.le_of_ble_eq_true rfl, Nat.le_of_ble_eq_true rfl⟩) dL_law_1191 rfl rfl (Nat.le_of_ble_eq_true rfl) ⟨by omega, by omega⟩ ?_
  refine j_istore (pc := 1194) C dL_law_1194 (by decide) [1, 2, 3, 4, 5, 0] rfl ?_
  refine j_aload_n (pc := 1196) C dL_law_1196 2 rfl ?_
  refine j_aload_n (pc := 1197) C dL_law_1197 0 rfl ?_
  refine j_iload (pc := 1198) C dL_law_1198 4 rfl ?_
  refine j_iconst (pc := 1200) C dL_law_1200 ?_
  refine j_iadd (pc := 1201) C dL_law_1201 ?_
  refine j_sld (pc := 1202) C hX hbl hbA hn (by omega) (by omega) ea dL_law_1202 ?_
  refine J.swap ?_
  refine j_callFI (pc := 1203) C (As := [.int (zI a)]) (rest := []) (kX1_isKnown l D k c1 c2 c3 th L K' Dm' S lo' hi' su' db' dy li so sp X ke se a r.okm (by omega) (by omega)) [0, 1, 2] rfl (cwV 1 C.2.2.2.2.1 gL_law_X1_isKnown rfl rfl rfl (by decide +kernel) ⟨Nat.le_of_ble_eq_true rfl, Nat.le_of_ble_eq_true rfl⟩) 0 (ci := 1) rfl rfl rfl dL_law_1203 rfl rfl (Nat.le_of_ble_eq_true rfl) ⟨by omega, by omega⟩ ?_
  rw [show (if -((fw (bgn X L lo' hi' su' db' S) L (L + 1)) (a + 1) a) = (fw (bgn X L lo' hi' su' db' S) L (L + 1)) a (a + 1) then (1 : Int) else 0) = 1 from if_pos (by rw [← (r.mat M X (a + 1) a (by omega) (by omega) (by omega) (by omega)), ← (r.mat M X a (a + 1) (by omega) (by omega) (by omega) (by omega))]; exact hkn)]
  refine j_istore (pc := 1206) C dL_law_1206 (by decide) [1, 2, 3, 4, 5, 6, 0] rfl ?_
  refine j_aload_n (pc := 1208) C dL_law_1208 2 rfl ?_
  refine j_callFI (pc := 1209) C (As := []) (rest := []) (kX1_thrown l D k c1 c2 c3 _ _ _ _ _ _ _ _ _ _ _ _ _ _ _ _) [0, 1, 2] rfl (cwV 0 C.2.2.2.2.1 gL_law_X1_thrown rfl rfl rfl (by decide +kernel) ⟨Nat.le_of_ble_eq_true rfl, Nat.le_of_ble_eq_true rfl⟩) 0 (ci := 1) rfl rfl rfl dL_law_1209 rfl rfl (Nat.le_of_ble_eq_true rfl) ⟨by omega, by omega⟩ ?_
  refine j_iload (pc := 1212) C dL_law_1212 5 rfl ?_
  refine j_icmp_eq (pc := 1214) C 1219 (a := 0) (b := 0) dL_law_1214 (by decide) ⟨by decide, by decide⟩ ⟨by decide, by decide⟩ (fun _ => ?_) (fun q => absurd rfl q)
  refine j_iload (pc := 1219) C dL_law_1219 5 rfl ?_
  refine j_if_ne (pc := 1221) C 1243 dL_law_1221 (by decide) ⟨by decide, by decide⟩ (fun q => absurd rfl q) (fun _ => ?_)
  refine j_aload_n (pc := 1224) C dL_law_1224 3 rfl ?_
  refine j_iconst (pc := 1225) C dL_law_1225 ?_
  refine j_lald (pc := 1226) C 33 2 rfl rfl (by decide) (by decide) dL_law_1226 ?_
  refine j_iload (pc := 1227) C dL_law_1227 6 rfl ?_
  refine j_if_eq (pc := 1229) C 1236 dL_law_1229 (by decide) ⟨by decide, by decide⟩ (fun q => absurd q (by decide)) (fun _ => ?_)
  refine j_lconst (pc := 1232) C (v := 1) dL_law_1232 (by decide +kernel) ?_
  refine j_goto (pc := 1233) C 1237 dL_law_1233 (by decide) ?_
  refine j_lcmpE (pc := 1237) C (by unfold vp_updL; rw [if_pos rfl]) dL_law_1237 ?_
  refine j_if_eq (pc := 1238) C 1243 dL_law_1238 (by decide) ⟨by decide, by decide⟩ (fun _ => ?_) (fun q => absurd rfl q)
  refine j_goto (pc := 1243) C 1713 dL_law_1243 (by decide) ?_
  refine J.swap ?_
  refine J.pick [0, 1, 2, 3, 4] rfl ?_
  refine J.widen (k := cells + 1) (n := slots + 9) (by omega) (by omega) (kont _ ?_)
  exact ⟨_, _, _, _, _, _, _, _, _, _, _, _, _, _, _, _, _, _, _, _, _, _, _, _, _, _, rfl, r.up⟩
set_option maxHeartbeats 4000000 in
set_option maxRecDepth 100000 in
theorem lw_samples {p : Program} {l : Launch} {e : Env} {s : State} {m : MethodId} {args : Array Value} {below : List Frame} {meth : Method} {c : Code} {D : va_G} {A : Nat → Prop} {cells slots : Nat} {Q : State → Prop} {c1 c2 c3 : ClassId} {h k : Nat → Nat} {o9 sb n : Nat} {xs : Nat → Int32} (C : GC p s m args meth c cL_law 9 RL wsL_law D (tyS c1 c2 c3) A) (htr : l.stackTraces = false) (hx : xF A s s.heap) (hX : va_X sb n xs s s.heap) (hbl : sb < s.heap.size) (hbA : ¬ A sb) {i : Int} (i0 : 0 ≤ i) (i1 : i + 2 < n) (hn : n ≤ 1536) (hcl : cells + 1 ≤ room_1.cells) (hsl : slots + 9 ≤ room_1.slots) {t : Int} (t0 : 0 ≤ t) (t1 : t < 512) {K Dm : Int → Int} {L : Int} {lo hi su db : Int → Int} {S dy li so sp : Int} {tu ah : Int → Int} {M : Int → Int → Int} {f9 : Nat → Int64} {th : Int} {K' Dm' lo' hi' su' db' : Int → Int} {X : Int → Int → Int} {ke se : Int → Int} (r : Rel t K Dm L lo hi su db S li K' Dm' lo' hi' su' db') (kont : ∀ w, LI (t + 1) c1 c2 c3 h k o9 w → J p l e room_1 s m args below meth c 9 D A (cells + 1) (slots + 9) Q w [(0, .ref sb), (1, .ref (h 0)), (2, .ref (k 0)), (3, .ref o9), (4, .int (zI i))] 1713 []) : J p l e room_1 s m args below meth c 9 D A cells slots Q ((wG h c1 c2 K Dm L lo hi su db S dy li so sp tu ah M ++ [(o9, .inl (c3, 1, .inr (.inl f9)))]) ++ wN k c1 th L K' Dm' S lo' hi' su' db' dy li so sp X ke se) [(0, .ref sb), (1, .ref (h 0)), (2, .ref (k 0)), (3, .ref o9), (4, .int (zI i))] 588 [] := by
  obtain ⟨⟨⟨hL0, hL⟩, ⟨hS0, hS⟩, hf, hs⟩, hd, hk, ⟨l0, l1⟩, eK, eD, e1, e2, e3, e4⟩ := id r
  obtain ⟨a, ea⟩ : ∃ a, (xs (i + 1).toNat).toInt = a := ⟨_, rfl⟩
  obtain ⟨b, eb⟩ : ∃ b, (xs (i + 2).toNat).toInt = b := ⟨_, rfl⟩
  have ha : zR a := by rw [← ea]; exact zR_of _
  have hb : zR b := by rw [← eb]; exact zR_of _
  obtain ⟨ha1, ha2⟩ := id ha
  obtain ⟨hb1, hb2⟩ := id hb
  refine j_aload_n (pc := 588) C dL_law_588 1 rfl ?_
  refine J.cast ?_ (List.append_assoc _ _ _) rfl rfl
  refine j_callFI (pc := 589) C (As := []) (rest := []) (kX0_samples l D h c1 c2 c3 K Dm L lo hi su db S dy li so sp tu ah M) [0, 1, 2] rfl (cwV 0 C.2.2.2.2.1 gL_law_X0_samples rfl rfl rfl (by decide +kernel) ⟨Nat.le_of_ble_eq_true rfl, Nat.le_of_ble_eq_true rfl⟩) 0 (ci := 0) rfl rfl rfl dL_law_589 rfl rfl (Nat.le_of_ble_eq_true rfl) ⟨by omega, by omega⟩ ?_
  refine j_aload_n (pc := 592) C dL_law_592 2 rfl ?_
  refine J.cast ?_ (List.append_assoc _ _ _).symm rfl rfl
  refine J.swap ?_
  refine j_callFI (pc := 593) C (As := []) (rest := [_]) (kX1_samples l D k c1 c2 c3 th L K' Dm' S lo' hi' su' db' dy li so sp X ke se) [0, 1, 2] rfl (cwV 0 C.2.2.2.2.1 gL_law_X1_samples rfl rfl rfl (by decide +kernel) ⟨Nat.le_of_ble_eq_true rfl, Nat.le_of_ble_eq_true rfl⟩) 0 (ci := 1) rfl rfl rfl dL_law_593 rfl rfl (Nat.le_of_ble_eq_true rfl) ⟨by omega, by omega⟩ ?_
  refine j_icmpE (pc := 596) C 1713 rfl dL_law_596 (by decide) ?_
  refine J.swap ?_
  refine J.widen (k := cells + 1) (n := slots + 9) (by omega) (by omega) (kont _ ?_)
  exact ⟨_, _, _, _, _, _, _, _, _, _, _, _, _, _, _, _, _, _, _, _, _, _, _, _, _, _, rfl, r.up⟩
set_option maxHeartbeats 4000000 in
set_option maxRecDepth 100000 in
theorem lw_layers {p : Program} {l : Launch} {e : Env} {s : State} {m : MethodId} {args : Array Value} {below : List Frame} {meth : Method} {c : Code} {D : va_G} {A : Nat → Prop} {cells slots : Nat} {Q : State → Prop} {c1 c2 c3 : ClassId} {h k : Nat → Nat} {o9 sb n : Nat} {xs : Nat → Int32} (C : GC p s m args meth c cL_law 9 RL wsL_law D (tyS c1 c2 c3) A) (htr : l.stackTraces = false) (hx : xF A s s.heap) (hX : va_X sb n xs s s.heap) (hbl : sb < s.heap.size) (hbA : ¬ A sb) {i : Int} (i0 : 0 ≤ i) (i1 : i + 2 < n) (hn : n ≤ 1536) (hcl : cells + 1 ≤ room_1.cells) (hsl : slots + 9 ≤ room_1.slots) {t : Int} (t0 : 0 ≤ t) (t1 : t < 512) {K Dm : Int → Int} {L : Int} {lo hi su db : Int → Int} {S dy li so sp : Int} {tu ah : Int → Int} {M : Int → Int → Int} {f9 : Nat → Int64} {th : Int} {K' Dm' lo' hi' su' db' : Int → Int} {X : Int → Int → Int} {ke se : Int → Int} (r : Rel t K Dm L lo hi su db S li K' Dm' lo' hi' su' db') (kont : ∀ w, LI (t + 1) c1 c2 c3 h k o9 w → J p l e room_1 s m args below meth c 9 D A (cells + 1) (slots + 9) Q w [(0, .ref sb), (1, .ref (h 0)), (2, .ref (k 0)), (3, .ref o9), (4, .int (zI i))] 1713 []) : J p l e room_1 s m args below meth c 9 D A cells slots Q ((wG h c1 c2 K Dm L lo hi su db S dy li so sp tu ah M ++ [(o9, .inl (c3, 1, .inr (.inl f9)))]) ++ wN k c1 th L K' Dm' S lo' hi' su' db' dy li so sp X ke se) [(0, .ref sb), (1, .ref (h 0)), (2, .ref (k 0)), (3, .ref o9), (4, .int (zI i))] 825 [] := by
  obtain ⟨⟨⟨hL0, hL⟩, ⟨hS0, hS⟩, hf, hs⟩, hd, hk, ⟨l0, l1⟩, eK, eD, e1, e2, e3, e4⟩ := id r
  obtain ⟨a, ea⟩ : ∃ a, (xs (i + 1).toNat).toInt = a := ⟨_, rfl⟩
  obtain ⟨b, eb⟩ : ∃ b, (xs (i + 2).toNat).toInt = b := ⟨_, rfl⟩
  have ha : zR a := by rw [← ea]; exact zR_of _
  have hb : zR b := by rw [← eb]; exact zR_of _
  obtain ⟨ha1, ha2⟩ := id ha
  obtain ⟨hb1, hb2⟩ := id hb
  refine j_aload_n (pc := 825) C dL_law_825 1 rfl ?_
  refine J.cast ?_ (List.append_assoc _ _ _) rfl rfl
  refine j_callFI (pc := 826) C (As := []) (rest := []) (kX0_layers l D h c1 c2 c3 K Dm L lo hi su db S dy li so sp tu ah M) [0, 1, 2] rfl (cwV 0 C.2.2.2.2.1 gL_law_X0_layers rfl rfl rfl (by decide +kernel) ⟨Nat.le_of_ble_eq_true rfl, Nat.le_of_ble_eq_true rfl⟩) 0 (ci := 0) rfl rfl rfl dL_law_826 rfl rfl (Nat.le_of_ble_eq_true rfl) ⟨by omega, by omega⟩ ?_
  refine j_aload_n (pc := 829) C dL_law_829 2 rfl ?_
  refine J.cast ?_ (List.append_assoc _ _ _).symm rfl rfl
  refine J.swap ?_
  refine j_callFI (pc := 830) C (As := []) (rest := [_]) (kX1_layers l D k c1 c2 c3 th L K' Dm' S lo' hi' su' db' dy li so sp X ke se) [0, 1, 2] rfl (cwV 0 C.2.2.2.2.1 gL_law_X1_layers rfl rfl rfl (by decide +kernel) ⟨Nat.le_of_ble_eq_true rfl, Nat.le_of_ble_eq_true rfl⟩) 0 (ci := 1) rfl rfl rfl dL_law_830 rfl rfl (Nat.le_of_ble_eq_true rfl) ⟨by omega, by omega⟩ ?_
  refine j_icmpE (pc := 833) C 1713 rfl dL_law_833 (by decide) ?_
  refine J.swap ?_
  refine J.widen (k := cells + 1) (n := slots + 9) (by omega) (by omega) (kont _ ?_)
  exact ⟨_, _, _, _, _, _, _, _, _, _, _, _, _, _, _, _, _, _, _, _, _, _, _, _, _, _, rfl, r.up⟩
set_option maxHeartbeats 4000000 in
set_option maxRecDepth 100000 in
theorem lw_day {p : Program} {l : Launch} {e : Env} {s : State} {m : MethodId} {args : Array Value} {below : List Frame} {meth : Method} {c : Code} {D : va_G} {A : Nat → Prop} {cells slots : Nat} {Q : State → Prop} {c1 c2 c3 : ClassId} {h k : Nat → Nat} {o9 sb n : Nat} {xs : Nat → Int32} (C : GC p s m args meth c cL_law 9 RL wsL_law D (tyS c1 c2 c3) A) (htr : l.stackTraces = false) (hx : xF A s s.heap) (hX : va_X sb n xs s s.heap) (hbl : sb < s.heap.size) (hbA : ¬ A sb) {i : Int} (i0 : 0 ≤ i) (i1 : i + 2 < n) (hn : n ≤ 1536) (hcl : cells + 1 ≤ room_1.cells) (hsl : slots + 9 ≤ room_1.slots) {t : Int} (t0 : 0 ≤ t) (t1 : t < 512) {K Dm : Int → Int} {L : Int} {lo hi su db : Int → Int} {S dy li so sp : Int} {tu ah : Int → Int} {M : Int → Int → Int} {f9 : Nat → Int64} {th : Int} {K' Dm' lo' hi' su' db' : Int → Int} {X : Int → Int → Int} {ke se : Int → Int} (r : Rel t K Dm L lo hi su db S li K' Dm' lo' hi' su' db') (kont : ∀ w, LI (t + 1) c1 c2 c3 h k o9 w → J p l e room_1 s m args below meth c 9 D A (cells + 1) (slots + 9) Q w [(0, .ref sb), (1, .ref (h 0)), (2, .ref (k 0)), (3, .ref o9), (4, .int (zI i))] 1713 []) : J p l e room_1 s m args below meth c 9 D A cells slots Q ((wG h c1 c2 K Dm L lo hi su db S dy li so sp tu ah M ++ [(o9, .inl (c3, 1, .inr (.inl f9)))]) ++ wN k c1 th L K' Dm' S lo' hi' su' db' dy li so sp X ke se) [(0, .ref sb), (1, .ref (h 0)), (2, .ref (k 0)), (3, .ref o9), (4, .int (zI i))] 838 [] := by
  obtain ⟨⟨⟨hL0, hL⟩, ⟨hS0, hS⟩, hf, hs⟩, hd, hk, ⟨l0, l1⟩, eK, eD, e1, e2, e3, e4⟩ := id r
  obtain ⟨a, ea⟩ : ∃ a, (xs (i + 1).toNat).toInt = a := ⟨_, rfl⟩
  obtain ⟨b, eb⟩ : ∃ b, (xs (i + 2).toNat).toInt = b := ⟨_, rfl⟩
  have ha : zR a := by rw [← ea]; exact zR_of _
  have hb : zR b := by rw [← eb]; exact zR_of _
  obtain ⟨ha1, ha2⟩ := id ha
  obtain ⟨hb1, hb2⟩ := id hb
  refine j_aload_n (pc := 838) C dL_law_838 1 rfl ?_
  refine J.cast ?_ (List.append_assoc _ _ _) rfl rfl
  refine j_callFI (pc := 839) C (As := []) (rest := []) (kX0_day l D h c1 c2 c3 K Dm L lo hi su db S dy li so sp tu ah M) [0, 1, 2] rfl (cwV 0 C.2.2.2.2.1 gL_law_X0_day rfl rfl rfl (by decide +kernel) ⟨Nat.le_of_ble_eq_true rfl, Nat.le_of_ble_eq_true rfl⟩) 0 (ci := 0) rfl rfl rfl dL_law_839 rfl rfl (Nat.le_of_ble_eq_true rfl) ⟨by omega, by omega⟩ ?_
  refine j_aload_n (pc := 842) C dL_law_842 2 rfl ?_
  refine J.cast ?_ (List.append_assoc _ _ _).symm rfl rfl
  refine J.swap ?_
  refine j_callFI (pc := 843) C (As := []) (rest := [_]) (kX1_day l D k c1 c2 c3 th L K' Dm' S lo' hi' su' db' dy li so sp X ke se) [0, 1, 2] rfl (cwV 0 C.2.2.2.2.1 gL_law_X1_day rfl rfl rfl (by decide +kernel) ⟨Nat.le_of_ble_eq_true rfl, Nat.le_of_ble_eq_true rfl⟩) 0 (ci := 1) rfl rfl rfl dL_law_843 rfl rfl (Nat.le_of_ble_eq_true rfl) ⟨by omega, by omega⟩ ?_
  refine j_icmpE (pc := 846) C 1713 rfl dL_law_846 (by decide) ?_
  refine J.swap ?_
  refine J.widen (k := cells + 1) (n := slots + 9) (by omega) (by omega) (kont _ ?_)
  exact ⟨_, _, _, _, _, _, _, _, _, _, _, _, _, _, _, _, _, _, _, _, _, _, _, _, _, _, rfl, r.up⟩
set_option maxHeartbeats 4000000 in
set_option maxRecDepth 100000 in
theorem lw_limit {p : Program} {l : Launch} {e : Env} {s : State} {m : MethodId} {args : Array Value} {below : List Frame} {meth : Method} {c : Code} {D : va_G} {A : Nat → Prop} {cells slots : Nat} {Q : State → Prop} {c1 c2 c3 : ClassId} {h k : Nat → Nat} {o9 sb n : Nat} {xs : Nat → Int32} (C : GC p s m args meth c cL_law 9 RL wsL_law D (tyS c1 c2 c3) A) (htr : l.stackTraces = false) (hx : xF A s s.heap) (hX : va_X sb n xs s s.heap) (hbl : sb < s.heap.size) (hbA : ¬ A sb) {i : Int} (i0 : 0 ≤ i) (i1 : i + 2 < n) (hn : n ≤ 1536) (hcl : cells + 1 ≤ room_1.cells) (hsl : slots + 9 ≤ room_1.slots) {t : Int} (t0 : 0 ≤ t) (t1 : t < 512) {K Dm : Int → Int} {L : Int} {lo hi su db : Int → Int} {S dy li so sp : Int} {tu ah : Int → Int} {M : Int → Int → Int} {f9 : Nat → Int64} {th : Int} {K' Dm' lo' hi' su' db' : Int → Int} {X : Int → Int → Int} {ke se : Int → Int} (r : Rel t K Dm L lo hi su db S li K' Dm' lo' hi' su' db') (kont : ∀ w, LI (t + 1) c1 c2 c3 h k o9 w → J p l e room_1 s m args below meth c 9 D A (cells + 1) (slots + 9) Q w [(0, .ref sb), (1, .ref (h 0)), (2, .ref (k 0)), (3, .ref o9), (4, .int (zI i))] 1713 []) : J p l e room_1 s m args below meth c 9 D A cells slots Q ((wG h c1 c2 K Dm L lo hi su db S dy li so sp tu ah M ++ [(o9, .inl (c3, 1, .inr (.inl f9)))]) ++ wN k c1 th L K' Dm' S lo' hi' su' db' dy li so sp X ke se) [(0, .ref sb), (1, .ref (h 0)), (2, .ref (k 0)), (3, .ref o9), (4, .int (zI i))] 851 [] := by
  obtain ⟨⟨⟨hL0, hL⟩, ⟨hS0, hS⟩, hf, hs⟩, hd, hk, ⟨l0, l1⟩, eK, eD, e1, e2, e3, e4⟩ := id r
  obtain ⟨a, ea⟩ : ∃ a, (xs (i + 1).toNat).toInt = a := ⟨_, rfl⟩
  obtain ⟨b, eb⟩ : ∃ b, (xs (i + 2).toNat).toInt = b := ⟨_, rfl⟩
  have ha : zR a := by rw [← ea]; exact zR_of _
  have hb : zR b := by rw [← eb]; exact zR_of _
  obtain ⟨ha1, ha2⟩ := id ha
  obtain ⟨hb1, hb2⟩ := id hb
  refine j_aload_n (pc := 851) C dL_law_851 1 rfl ?_
  refine J.cast ?_ (List.append_assoc _ _ _) rfl rfl
  refine j_callFI (pc := 852) C (As := []) (rest := []) (kX0_limit l D h c1 c2 c3 K Dm L lo hi su db S dy li so sp tu ah M) [0, 1, 2] rfl (cwV 0 C.2.2.2.2.1 gL_law_X0_limit rfl rfl rfl (by decide +kernel) ⟨Nat.le_of_ble_eq_true rfl, Nat.le_of_ble_eq_true rfl⟩) 0 (ci := 0) rfl rfl rfl dL_law_852 rfl rfl (Nat.le_of_ble_eq_true rfl) ⟨by omega, by omega⟩ ?_
  refine j_aload_n (pc := 855) C dL_law_855 2 rfl ?_
  refine J.cast ?_ (List.append_assoc _ _ _).symm rfl rfl
  refine J.swap ?_
  refine j_callFI (pc := 856) C (As := []) (rest := [_]) (kX1_limit l D k c1 c2 c3 th L K' Dm' S lo' hi' su' db' dy li so sp X ke se) [0, 1, 2] rfl (cwV 0 C.2.2.2.2.1 gL_law_X1_limit rfl rfl rfl (by decide +kernel) ⟨Nat.le_of_ble_eq_true rfl, Nat.le_of_ble_eq_true rfl⟩) 0 (ci := 1) rfl rfl rfl dL_law_856 rfl rfl (Nat.le_of_ble_eq_true rfl) ⟨by omega, by omega⟩ ?_
  refine j_icmpE (pc := 859) C 1713 rfl dL_law_859 (by decide) ?_
  refine J.swap ?_
  refine J.widen (k := cells + 1) (n := slots + 9) (by omega) (by omega) (kont _ ?_)
  exact ⟨_, _, _, _, _, _, _, _, _, _, _, _, _, _, _, _, _, _, _, _, _, _, _, _, _, _, rfl, r.up⟩
