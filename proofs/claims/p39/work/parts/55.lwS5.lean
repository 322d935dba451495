/-! ===== the law: its body ===== -/
section LW
variable {p : Program} {l : Launch} {e : Env} {s : State} {m : MethodId} {args : Array Value} {below : List Frame} {meth : Method} {c : Code} {D : va_G} {c1 c2 c3 : ClassId} {A : Nat → Prop} {Q : State → Prop}
set_option maxHeartbeats 8000000 in
set_option maxRecDepth 100000 in
theorem lwS5 (C : GC p s m args meth c cL_law 19 RL wsL_law D (tyS c1 c2 c3) A) (ho : va_AOA .int s) (o b : Nat) (h : Nat → Nat) (K Dm : Int → Int) (L : Int) (lo hi su db : Int → Int) (S dy li so sp : Int) (tu ah : Int → Int) (M : Int → Int → Int) (la sa : Nat) (r q : Nat → Nat) (tm x : Int) (k0 s0 : Nat) (t : Int) (N : Int → Int → Int) (lw hg : Int) (hI : IU t (K, Dm, L, lo, hi, su, db, S, dy, li, so, sp, tu, ah, M, la, sa, r, q)) (t0 : 0 ≤ t) (t1 : t < 500) (hk0 : k0 ≤ 100000) (hs0 : s0 ≤ 1000000) (hlh : (0 ≤ lw ∧ lw ≤ 40) ∧ (0 ≤ hg ∧ hg ≤ 40) ∧ (∀ j, 0 ≤ j → j < L → lw ≤ Dm j ∧ Dm j ≤ hg)) (k : ∀ (Dm1 db1 tu1 ah1 : Int → Int) (dy1 : Int) (N1 : Int → Int → Int), IU (t + 8) (K, Dm1, L, lo, hi, su, db1, S, dy1, li, so, sp, tu1, ah1, N1, la, sa, r, q) → J p l e room_1 s m args below meth c 19 D A (k0 + 8) (s0 + 96) Q (wG h c1 c2 K Dm1 L lo hi su db1 S dy1 li so sp tu1 ah1 N1 ++ (gO o la sa dy1 li so sp ++ (gR c2 la L.toNat r ++ (gR c2 sa S.toNat q ++ (gB c1 r L.toNat 2 (fL K Dm1) ++ (gB c1 q S.toNat 4 (fS lo hi su db1) ++ ([]))))))) [(0, .ref b), (1, .ref (h 0)), (2, .ref o), (3, .int (zI tm))] 1004 []) : J p l e room_1 s m args below meth c 19 D A (k0) (s0) Q (wG h c1 c2 K Dm L lo hi su db S dy li so sp tu ah N ++ (gO o la sa dy li so sp ++ (gR c2 la L.toNat r ++ (gR c2 sa S.toNat q ++ (gB c1 r L.toNat 2 (fL K Dm) ++ (gB c1 q S.toNat 4 (fS lo hi su db) ++ ([]))))))) [(0, .ref b), (1, .ref (h 0)), (2, .ref o), (3, .int (zI tm)), (4, .int (zI x)), (7, .int (zI L)), (8, .int (zI (dNow (wz L lo hi su db S) L))), (9, .int (zI lw)), (10, .int (zI hg))] 796 [] := by
  obtain ⟨hR, hdy, hso, hsp⟩ := id hI
  have hok := hR.1
  obtain ⟨⟨hL0, hL⟩, ⟨hS0, hS⟩, hf, hs⟩ := id hok
  have hkK := hR.2.2.1
  have hli := hR.2.2.2.1
  have hB := wz_B hok
  have hT := wz_T hok
  have hE9 := wz_E hok
  have hW9 := wz_ok hok
  have dn9 := dNow_in hL0 hL hB
  refine j_iconst (pc := 796) C dL_law_796 ?_
  refine j_iload (pc := 797) C dL_law_797 4 rfl ?_
  refine j_bipush (pc := 799) C dL_law_799 (by decide +kernel) ?_
  refine j_ishr (pc := 801) C (sh_eq x 6) dL_law_801 ?_
  refine j_bipush (pc := 802) C dL_law_802 (by decide +kernel) ?_
  refine j_callSI (pc := 804) C (As := [.int (zI (sh x 6)), .int (zI 8)]) (rest := [.int (zI 1)]) (kL_below l D c1 c2 c3 (sh x 6) 8 (by omega) (by omega)) (va_cwS 2 C.2.2.2.2.1 gL_law_L_below rfl rfl rfl (by decide +kernel) ⟨Nat.le_of_ble_eq_true rfl, Nat.le_of_ble_eq_true rfl⟩) dL_law_804 rfl rfl (Nat.le_of_ble_eq_true rfl) ⟨(by show _ ≤ 600172; omega), (by show _ ≤ 7300668; omega)⟩ ?_
  have b_804 := bl_in (v := sh x 6) (n := 8) (by omega)
  refine j_iadd (pc := 807) C dL_law_807 ?_
  refine j_istore (pc := 808) C (lv' := [(0, .ref b), (1, .ref (h 0)), (2, .ref o), (3, .int (zI tm)), (4, .int (zI x)), (7, .int (zI L)), (8, .int (zI (dNow (wz L lo hi su db S) L))), (9, .int (zI lw)), (10, .int (zI hg)), (13, .int (zI (1 + (bl (sh x 6) 8))))]) dL_law_808 (by decide) [1, 2, 3, 4, 5, 6, 7, 8, 9, 0] rfl ?_
  refine J.join (X := Int) (fun x9 => wG h c1 c2 K Dm L lo hi su db S dy li so sp tu ah N ++ (gO o la sa dy li so sp ++ (gR c2 la L.toNat r ++ (gR c2 sa S.toNat q ++ (gB c1 r L.toNat 2 (fL K Dm) ++ (gB c1 q S.toNat 4 (fS lo hi su db) ++ ([]))))))) (fun x9 => [(0, .ref b), (1, .ref (h 0)), (2, .ref o), (3, .int (zI tm)), (4, .int (zI x)), (7, .int (zI L)), (8, .int (zI (dNow (wz L lo hi su db S) L))), (9, .int (zI lw)), (10, .int (zI hg)), (13, .int (zI (1 + (bl (sh x 6) 8))))]) (fun x9 => [.int (zI x9)]) (fun x9 => (0 < L → 0 ≤ x9 ∧ x9 < L) ∧ (L = 0 → x9 = 0)) 829 (k0) (s0) ?_ ?_
  · intro x9 hJ_829
    generalize x9 = v8 at hJ_829 ⊢
    try dsimp only at hJ_829 ⊢
    obtain ⟨v7, hv7, hv7p⟩ : ∃ v, v = 1 + (bl (sh x 6) 8) ∧ 1 ≤ v ∧ v ≤ 8 := ⟨_, rfl, ⟨by omega, by omega⟩⟩
    refine J.cast (ws' := wG h c1 c2 K Dm L lo hi su db S dy li so sp tu ah N ++ (gO o la sa dy li so sp ++ (gR c2 la L.toNat r ++ (gR c2 sa S.toNat q ++ (gB c1 r L.toNat 2 (fL K Dm) ++ (gB c1 q S.toNat 4 (fS lo hi su db) ++ ([]))))))) (lv' := [(0, .ref b), (1, .ref (h 0)), (2, .ref o), (3, .int (zI tm)), (4, .int (zI x)), (7, .int (zI L)), (8, .int (zI (dNow (wz L lo hi su db S) L))), (9, .int (zI lw)), (10, .int (zI hg)), (13, .int (zI v7))]) (st' := [.int (zI v8)]) ?_ (by rfl) (by rw [hv7]) (by rfl)
    refine j_istore (pc := 829) C (lv' := [(0, .ref b), (1, .ref (h 0)), (2, .ref o), (3, .int (zI tm)), (4, .int (zI x)), (7, .int (zI L)), (8, .int (zI (dNow (wz L lo hi su db S) L))), (9, .int (zI lw)), (10, .int (zI hg)), (13, .int (zI v7)), (14, .int (zI v8))]) dL_law_829 (by decide) [1, 2, 3, 4, 5, 6, 7, 8, 9, 10, 0] rfl ?_
    refine J.join (X := Int × (Int → Int) × (Int → Int)) (fun x9 => wG h c1 c2 K Dm L lo hi su db S dy li so sp x9.2.1 x9.2.2 N ++ (gO o la sa dy li so sp ++ (gR c2 la L.toNat r ++ (gR c2 sa S.toNat q ++ (gB c1 r L.toNat 2 (fL K Dm) ++ (gB c1 q S.toNat 4 (fS lo hi su db) ++ ([]))))))) (fun x9 => [(0, .ref b), (1, .ref (h 0)), (2, .ref o), (3, .int (zI tm)), (4, .int (zI x)), (7, .int (zI L)), (8, .int (zI (dNow (wz L lo hi su db S) L))), (9, .int (zI lw)), (10, .int (zI hg)), (13, .int (zI v7)), (14, .int (zI v8))]) (fun x9 => [.int (zI x9.1)]) (fun x9 => (0 < L → x9.1 = dayF Dm L v7 v8) ∧ (L = 0 → x9.1 = 0)) 848 (k0) (s0) ?_ ?_
    · intro x9 hJ_848
      obtain ⟨v9, tu1, ah1⟩ := x9
      try dsimp only at hJ_848 ⊢
      refine j_istore (pc := 848) C (lv' := [(0, .ref b), (1, .ref (h 0)), (2, .ref o), (3, .int (zI tm)), (4, .int (zI x)), (7, .int (zI L)), (8, .int (zI (dNow (wz L lo hi su db S) L))), (9, .int (zI lw)), (10, .int (zI hg)), (13, .int (zI v7)), (14, .int (zI v8)), (15, .int (zI v9))]) dL_law_848 (by decide) [1, 2, 3, 4, 5, 6, 7, 8, 9, 10, 11, 0] rfl ?_
      refine j_aload_n (pc := 850) C dL_law_850 1 rfl ?_
      refine j_callPI (pc := 851) C (As := []) (rest := []) (wr := gO o la sa dy li so sp ++ (gR c2 la L.toNat r ++ (gR c2 sa S.toNat q ++ (gB c1 r L.toNat 2 (fL K Dm) ++ (gB c1 q S.toNat 4 (fS lo hi su db) ++ ([])))))) (kX0_daysUntilEven l D h c1 c2 c3 K Dm L lo hi su db S dy li so sp tu1 ah1 N  (by omega) (by omega) hok.2.2.1) (cwV 0 C.2.2.2.2.1 gL_law_X0_daysUntilEven rfl rfl rfl (by decide +kernel) ⟨Nat.le_of_ble_eq_true rfl, Nat.le_of_ble_eq_true rfl⟩) 0 (ci := 0) rfl rfl rfl dL_law_851 rfl rfl (Nat.le_of_ble_eq_true rfl) ⟨(by show _ ≤ 600172; omega), (by show _ ≤ 7300668; omega)⟩ ?_
      refine j_istore (pc := 854) C (lv' := [(0, .ref b), (1, .ref (h 0)), (2, .ref o), (3, .int (zI tm)), (4, .int (zI x)), (7, .int (zI L)), (8, .int (zI (dNow (wz L lo hi su db S) L))), (9, .int (zI lw)), (10, .int (zI hg)), (13, .int (zI v7)), (14, .int (zI v8)), (15, .int (zI v9)), (16, .int (zI (fidx (fun j => decide (turnC (dayF (mix Dm ah1 L) L j) L = 0)) 201)))]) dL_law_854 (by decide) [1, 2, 3, 4, 5, 6, 7, 8, 9, 10, 11, 12, 0] rfl ?_
      obtain ⟨ev, hev, hsp⟩ : ∃ v, v = fidx (fun j => decide (turnC (dayF (mix Dm ah1 L) L j) L = 0)) 201 ∧ EV Dm L v := ⟨_, rfl, even_spec (mixI Dm ah1 L)⟩
      refine J.cast (ws' := wG h c1 c2 K Dm L lo hi su db S dy li so sp (dayT (mix Dm ah1 L) L tu1 (dEnd (fidx (fun j => decide (turnC (dayF (mix Dm ah1 L) L j) L = 0)) 201))) (dayF (mix Dm ah1 L) L (dEnd (fidx (fun j => decide (turnC (dayF (mix Dm ah1 L) L j) L = 0)) 201))) N ++ (gO o la sa dy li so sp ++ (gR c2 la L.toNat r ++ (gR c2 sa S.toNat q ++ (gB c1 r L.toNat 2 (fL K Dm) ++ (gB c1 q S.toNat 4 (fS lo hi su db) ++ ([]))))))) (lv' := [(0, .ref b), (1, .ref (h 0)), (2, .ref o), (3, .int (zI tm)), (4, .int (zI x)), (7, .int (zI L)), (8, .int (zI (dNow (wz L lo hi su db S) L))), (9, .int (zI lw)), (10, .int (zI hg)), (13, .int (zI v7)), (14, .int (zI v8)), (15, .int (zI v9)), (16, .int (zI ev))]) (st' := []) ?_ (by rfl) (by rw [hev]) (by rfl)
      refine j_iconst (pc := 856) C dL_law_856 ?_
      refine j_istore (pc := 857) C (lv' := [(0, .ref b), (1, .ref (h 0)), (2, .ref o), (3, .int (zI tm)), (4, .int (zI x)), (7, .int (zI L)), (8, .int (zI (dNow (wz L lo hi su db S) L))), (9, .int (zI lw)), (10, .int (zI hg)), (13, .int (zI v7)), (14, .int (zI v8)), (15, .int (zI v9)), (16, .int (zI ev)), (17, .int (zI 0))]) dL_law_857 (by decide) [1, 2, 3, 4, 5, 6, 7, 8, 9, 10, 11, 12, 13, 0] rfl ?_
      refine J.pick (lv' := [(0, .ref b), (1, .ref (h 0)), (2, .ref o), (3, .int (zI tm)), (7, .int (zI L)), (8, .int (zI (dNow (wz L lo hi su db S) L))), (9, .int (zI lw)), (10, .int (zI hg)), (13, .int (zI v7)), (14, .int (zI v8)), (15, .int (zI v9)), (16, .int (zI ev)), (17, .int (zI 0))]) [0, 1, 2, 3, 5, 6, 7, 8, 9, 10, 11, 12, 13] rfl ?_
      refine J.cast (ws' := wG h c1 c2 K (dayF Dm L ((0 : Int))) L lo hi su db S (dy + ((0 : Int))) li so sp ((dayT (mix Dm ah1 L) L tu1 (dEnd (fidx (fun j => decide (turnC (dayF (mix Dm ah1 L) L j) L = 0)) 201)))) (dayF (mix Dm ah1 L) L (dEnd (fidx (fun j => decide (turnC (dayF (mix Dm ah1 L) L j) L = 0)) 201))) N ++ (gO o la sa (dy + ((0 : Int))) li so sp ++ (gR c2 la L.toNat r ++ (gR c2 sa S.toNat q ++ (gB c1 r L.toNat 2 (fL K (dayF Dm L ((0 : Int)))) ++ (gB c1 q S.toNat 4 (fS lo hi su db) ++ ([]))))))) (lv' := [(0, .ref b), (1, .ref (h 0)), (2, .ref o), (3, .int (zI tm)), (7, .int (zI L)), (8, .int (zI (dNow (wz L lo hi su db S) L))), (9, .int (zI lw)), (10, .int (zI hg)), (13, .int (zI v7)), (14, .int (zI v8)), (15, .int (zI v9)), (16, .int (zI ev)), (17, .int (zI (((0 : Int)))))]) ?_ (by rw [show dy + (0 : Int) = dy by omega]; rfl) (by rfl) rfl
      refine J.widen (k := k0 + ((0 : Int)).toNat) (n := s0 + 12 * ((0 : Int)).toNat) (by omega) (by omega) ?_
      refine j_loop (X := (Int → Int) × (Int → Int)) (fun (k : Int) x9 => wG h c1 c2 K (dayF Dm L k) L lo hi su x9.1 S (dy + k) li so sp x9.2 (dayF (mix Dm ah1 L) L (dEnd (fidx (fun j => decide (turnC (dayF (mix Dm ah1 L) L j) L = 0)) 201))) N ++ (gO o la sa (dy + k) li so sp ++ (gR c2 la L.toNat r ++ (gR c2 sa S.toNat q ++ (gB c1 r L.toNat 2 (fL K (dayF Dm L k)) ++ (gB c1 q S.toNat 4 (fS lo hi su x9.1) ++ ([]))))))) (fun (k : Int) x9 => [(0, .ref b), (1, .ref (h 0)), (2, .ref o), (3, .int (zI tm)), (7, .int (zI L)), (8, .int (zI (dNow (wz L lo hi su db S) L))), (9, .int (zI lw)), (10, .int (zI hg)), (13, .int (zI v7)), (14, .int (zI v8)), (15, .int (zI v9)), (16, .int (zI ev)), (17, .int (zI k))]) (fun (k : Int) x9 => Rel (t + k) K (dayF Dm L k) L lo hi su x9.1 S li K (dayF Dm L k) lo hi su x9.1 ∧ ∀ n, 0 ≤ n → n < S → db n ≤ x9.1 n) (fun (k : Int) => k0 + k.toNat) (fun (k : Int) => s0 + 12 * k.toNat) (0 : Int) v7 (by omega) ?_ ?_ ⟨db, dayT (mix Dm ah1 L) L tu1 (dEnd (fidx (fun j => decide (turnC (dayF (mix Dm ah1 L) L j) L = 0)) 201))⟩ ⟨by rw [show t + 0 = t by omega]; exact hR, fun n _ _ => Int.le_refl _⟩
      · intro k x9 h0_859 h1_859 hI_859 hk_859
        obtain ⟨B, T⟩ := x9
        try dsimp only at hI_859 hk_859 ⊢
        have hs9 := hsp.at k h0_859 (by omega)
        have tc9 : 0 ≤ turnC (dayF Dm L k) L ∧ turnC (dayF Dm L k) L ≤ L - 0 := zc_le _ 0 L hL0
        refine j_iload (pc := 859) C dL_law_859 12 rfl ?_
        refine j_iload (pc := 861) C dL_law_861 8 rfl ?_
        refine j_icmp_ge (pc := 863) C 937 dL_law_863 (by decide) ⟨by omega, by omega⟩ ⟨by omega, by omega⟩ (fun c_863 => absurd c_863 (by omega)) (fun c_863 => ?_)
        refine j_aload_n (pc := 866) C dL_law_866 1 rfl ?_
        refine j_iconst (pc := 867) C dL_law_867 ?_
        refine j_callPI (pc := 868) C (As := [.int (zI 1)]) (rest := []) (wr := gO o la sa (dy + k) li so sp ++ (gR c2 la L.toNat r ++ (gR c2 sa S.toNat q ++ (gB c1 r L.toNat 2 (fL K (dayF Dm L k)) ++ (gB c1 q S.toNat 4 (fS lo hi su B) ++ ([])))))) (kX0_pass l D h c1 c2 c3 K (dayF Dm L k) L lo hi su B S (dy + k) li so sp T (dayF (mix Dm ah1 L) L (dEnd (fidx (fun j => decide (turnC (dayF (mix Dm ah1 L) L j) L = 0)) 201))) N 1 hI_859.1.1 (by omega) (by omega)) (cwV 1 C.2.2.2.2.1 gL_law_X0_pass rfl rfl rfl (by decide +kernel) ⟨Nat.le_of_ble_eq_true rfl, Nat.le_of_ble_eq_true rfl⟩) 0 (ci := 0) rfl rfl rfl dL_law_868 rfl rfl (Nat.le_of_ble_eq_true rfl) ⟨(by show _ ≤ 600172; omega), (by show _ ≤ 7300668; omega)⟩ ?_
        refine J.cast (ws' := wG h c1 c2 K (dayF (dayF Dm L k) L 1) L lo hi su (mix (fun j => B j + 1 * (hi j - lo j + 1)) B S) S ((dy + k) + 1) li so sp (dayT (dayF Dm L k) L T 1) (dayF (mix Dm ah1 L) L (dEnd (fidx (fun j => decide (turnC (dayF (mix Dm ah1 L) L j) L = 0)) 201))) N ++ (gO o la sa (dy + k) li so sp ++ (gR c2 la L.toNat r ++ (gR c2 sa S.toNat q ++ (gB c1 r L.toNat 2 (fL K (dayF Dm L k)) ++ (gB c1 q S.toNat 4 (fS lo hi su B) ++ ([]))))))) (lv' := [(0, .ref b), (1, .ref (h 0)), (2, .ref o), (3, .int (zI tm)), (7, .int (zI L)), (8, .int (zI (dNow (wz L lo hi su db S) L))), (9, .int (zI lw)), (10, .int (zI hg)), (13, .int (zI v7)), (14, .int (zI v8)), (15, .int (zI v9)), (16, .int (zI ev)), (17, .int (zI k))]) (st' := [.int (zI (turnC (dayF Dm L k) L))]) ?_ (by rfl) (by rfl) (by rw [dayC_1])
        refine J.cast (ws' := wG h c1 c2 K (dayF Dm L (k + 1)) L lo hi su (mix (fun j => B j + 1 * (hi j - lo j + 1)) B S) S (dy + (k + 1)) li so sp (dayT (dayF Dm L k) L T 1) (dayF (mix Dm ah1 L) L (dEnd (fidx (fun j => decide (turnC (dayF (mix Dm ah1 L) L j) L = 0)) 201))) N ++ (gO o la sa (dy + k) li so sp ++ (gR c2 la L.toNat r ++ (gR c2 sa S.toNat q ++ (gB c1 r L.toNat 2 (fL K (dayF Dm L k)) ++ (gB c1 q S.toNat 4 (fS lo hi su B) ++ ([]))))))) (lv' := [(0, .ref b), (1, .ref (h 0)), (2, .ref o), (3, .int (zI tm)), (7, .int (zI L)), (8, .int (zI (dNow (wz L lo hi su db S) L))), (9, .int (zI lw)), (10, .int (zI hg)), (13, .int (zI v7)), (14, .int (zI v8)), (15, .int (zI v9)), (16, .int (zI ev)), (17, .int (zI k))]) (st' := [.int (zI (turnC (dayF Dm L k) L))]) ?_ (by rw [dayF_1 _ _ _ h0_859, show dy + k + 1 = dy + (k + 1) by omega]) (by rfl) (by rfl)
        refine j_istore (pc := 871) C (lv' := [(0, .ref b), (1, .ref (h 0)), (2, .ref o), (3, .int (zI tm)), (7, .int (zI L)), (8, .int (zI (dNow (wz L lo hi su db S) L))), (9, .int (zI lw)), (10, .int (zI hg)), (13, .int (zI v7)), (14, .int (zI v8)), (15, .int (zI v9)), (16, .int (zI ev)), (17, .int (zI k)), (18, .int (zI (turnC (dayF Dm L k) L)))]) dL_law_871 (by decide) [1, 2, 3, 4, 5, 6, 7, 8, 9, 10, 11, 12, 13, 0] rfl ?_
        refine j_iload (pc := 873) C dL_law_873 13 rfl ?_
        refine j_aload_n (pc := 875) C dL_law_875 2 rfl ?_
        refine J.perm (ws' := wS c1 c2 o la sa r q (dy + k) li so sp L K (dayF Dm L k) S lo hi su B ++ (wG h c1 c2 K (dayF Dm L (k + 1)) L lo hi su (mix (fun j => B j + 1 * (hi j - lo j + 1)) B S) S (dy + (k + 1)) li so sp (dayT (dayF Dm L k) L T 1) (dayF (mix Dm ah1 L) L (dEnd (fidx (fun j => decide (turnC (dayF (mix Dm ah1 L) L j) L = 0)) 201))) N ++ ([]))) (perm_of_count (fun cnt h1_ h0_ => by simp only [wU, wS, wGS, h1_, h0_] <;> omega)) ?_
        refine j_callEI (pc := 876) C E1.be (E1.he ho) (As := []) (rest := [.int (zI (turnC (dayF Dm L k) L))]) (wr := wG h c1 c2 K (dayF Dm L (k + 1)) L lo hi su (mix (fun j => B j + 1 * (hi j - lo j + 1)) B S) S (dy + (k + 1)) li so sp (dayT (dayF Dm L k) L T 1) (dayF (mix Dm ah1 L) L (dEnd (fidx (fun j => decide (turnC (dayF (mix Dm ah1 L) L j) L = 0)) 201))) N ++ ([])) (kX1_pass l D c1 c2 c3 o la sa r q (dy + k) li so sp L K (dayF Dm L k) S lo hi su B  (by omega) (by omega) (by omega) (by omega) (dayF_in hf k)) (cwV 0 C.2.2.2.2.1 gL_law_X1_pass rfl rfl rfl (by decide +kernel) ⟨Nat.le_of_ble_eq_true rfl, Nat.le_of_ble_eq_true rfl⟩) 0 (ci := 1) rfl rfl rfl dL_law_876 rfl rfl (Nat.le_of_ble_eq_true rfl) ⟨(by show _ ≤ 600172; omega), (by show _ ≤ 7300668; omega)⟩ (fun u1_ hu1_ => ?_)
        refine J.sub (ws' := wG h c1 c2 K (dayF Dm L (k + 1)) L lo hi su (mix (fun j => B j + 1 * (hi j - lo j + 1)) B S) S (dy + (k + 1)) li so sp (dayT (dayF Dm L k) L T 1) (dayF (mix Dm ah1 L) L (dEnd (fidx (fun j => decide (turnC (dayF (mix Dm ah1 L) L j) L = 0)) 201))) N ++ (gO o la sa (dy + k + 1) li so sp ++ (gR c2 la L.toNat r ++ (gR c2 sa S.toNat q ++ (gB c1 r L.toNat 2 (fL K (mix (turnD (dayF Dm L k) L) (dayF Dm L k) L)) ++ (gB c1 q S.toNat 4 (fS lo hi su (mix (fun j => B j + (hi j - lo j + 1)) B S)) ++ ([]))))))) (rest := []) (perm_of_count (fun cnt h1_ h0_ => by simp only [wU, wS, wGS, h1_, h0_] <;> omega)) ?_
        refine J.perm (ws' := wS c1 c2 o la sa r q (dy + k + 1) li so sp L K (mix (turnD (dayF Dm L k) L) (dayF Dm L k) L) S lo hi su (mix (fun j => B j + (hi j - lo j + 1)) B S) ++ (wG h c1 c2 K (dayF Dm L (k + 1)) L lo hi su (mix (fun j => B j + 1 * (hi j - lo j + 1)) B S) S (dy + (k + 1)) li so sp (dayT (dayF Dm L k) L T 1) (dayF (mix Dm ah1 L) L (dEnd (fidx (fun j => decide (turnC (dayF (mix Dm ah1 L) L j) L = 0)) 201))) N ++ ([]))) (perm_of_count (fun cnt h1_ h0_ => by simp only [wU, wS, wGS, h1_, h0_] <;> omega)) ?_
        refine J.cast (ws' := wS c1 c2 o la sa r q (dy + k + 1) li so sp L K (dayF Dm L (k + 1)) S lo hi su (mix (fun j => B j + 1 * (hi j - lo j + 1)) B S) ++ (wG h c1 c2 K (dayF Dm L (k + 1)) L lo hi su (mix (fun j => B j + 1 * (hi j - lo j + 1)) B S) S (dy + (k + 1)) li so sp (dayT (dayF Dm L k) L T 1) (dayF (mix Dm ah1 L) L (dEnd (fidx (fun j => decide (turnC (dayF (mix Dm ah1 L) L j) L = 0)) 201))) N ++ ([]))) ?_ (by exact congrArg (· ++ (wG h c1 c2 K (dayF Dm L (k + 1)) L lo hi su (mix (fun j => B j + 1 * (hi j - lo j + 1)) B S) S (dy + (k + 1)) li so sp (dayT (dayF Dm L k) L T 1) (dayF (mix Dm ah1 L) L (dEnd (fidx (fun j => decide (turnC (dayF (mix Dm ah1 L) L j) L = 0)) 201))) N ++ ([]))) (wS_eq eqI.rf (fun j9 _ _ => by rw [dayF_up _ _ _ h0_859]) eqI.rf eqI.rf eqI.rf mix1)) rfl rfl
        refine J.sub (ws' := wG h c1 c2 K (dayF Dm L (k + 1)) L lo hi su (mix (fun j => B j + 1 * (hi j - lo j + 1)) B S) S (dy + (k + 1)) li so sp (dayT (dayF Dm L k) L T 1) (dayF (mix Dm ah1 L) L (dEnd (fidx (fun j => decide (turnC (dayF (mix Dm ah1 L) L j) L = 0)) 201))) N ++ (gO o la sa (dy + k + 1) li so sp ++ (gR c2 la L.toNat r ++ (gR c2 sa S.toNat q ++ (gB c1 r L.toNat 2 (fL K (dayF Dm L (k + 1))) ++ (gB c1 q S.toNat 4 (fS lo hi su (mix (fun j => B j + 1 * (hi j - lo j + 1)) B S)) ++ ([]))))))) (rest := []) (perm_of_count (fun cnt h1_ h0_ => by simp only [wU, wS, wGS, h1_, h0_] <;> omega)) ?_
        refine J.cast (ws' := wG h c1 c2 K (dayF Dm L (k + 1)) L lo hi su (mix (fun j => B j + 1 * (hi j - lo j + 1)) B S) S (dy + (k + 1)) li so sp (dayT (dayF Dm L k) L T 1) (dayF (mix Dm ah1 L) L (dEnd (fidx (fun j => decide (turnC (dayF (mix Dm ah1 L) L j) L = 0)) 201))) N ++ (gO o la sa (dy + (k + 1)) li so sp ++ (gR c2 la L.toNat r ++ (gR c2 sa S.toNat q ++ (gB c1 r L.toNat 2 (fL K (dayF Dm L (k + 1))) ++ (gB c1 q S.toNat 4 (fS lo hi su (mix (fun j => B j + 1 * (hi j - lo j + 1)) B S)) ++ ([]))))))) ?_ (by rw [show dy + k + 1 = dy + (k + 1) by omega]) rfl rfl
        refine j_icmp_ne (pc := 879) C 929 dL_law_879 (by decide) ⟨by omega, by omega⟩ ⟨by omega, by omega⟩ (fun c_879 => absurd c_879 (by omega)) (fun c_879 => ?_)
        refine j_iload (pc := 882) C dL_law_882 11 rfl ?_
        refine j_if_lt (pc := 884) C 919 dL_law_884 (by decide) ⟨by omega, by omega⟩ (fun c_884 => ?_) (fun c_884 => ?_)
        · skip
          refine j_iload (pc := 919) C dL_law_919 11 rfl ?_
          refine j_if_ge (pc := 921) C 931 dL_law_921 (by decide) ⟨by omega, by omega⟩ (fun c_921 => ?_) (fun c_921 => ?_)
          · skip
            refine j_iinc (pc := 931) C (x := k) (lv' := [(0, .ref b), (1, .ref (h 0)), (2, .ref o), (3, .int (zI tm)), (7, .int (zI L)), (8, .int (zI (dNow (wz L lo hi su db S) L))), (9, .int (zI lw)), (10, .int (zI hg)), (13, .int (zI v7)), (14, .int (zI v8)), (15, .int (zI v9)), (16, .int (zI ev)), (17, .int (zI (k + 1))), (18, .int (zI (turnC (dayF Dm L k) L)))]) dL_law_931 12 rfl (by decide) [1, 2, 3, 4, 5, 6, 7, 8, 9, 10, 11, 12, 0, 13] rfl ?_
            refine j_goto (pc := 934) C 859 dL_law_934 (by decide) ?_
            refine J.pick (lv' := [(0, .ref b), (1, .ref (h 0)), (2, .ref o), (3, .int (zI tm)), (7, .int (zI L)), (8, .int (zI (dNow (wz L lo hi su db S) L))), (9, .int (zI lw)), (10, .int (zI hg)), (13, .int (zI v7)), (14, .int (zI v8)), (15, .int (zI v9)), (16, .int (zI ev)), (17, .int (zI (k + 1)))]) [0, 1, 2, 3, 4, 5, 6, 7, 8, 9, 10, 11, 12] rfl ?_
            exact J.widen (by omega) (by omega) (J.cast (hk_859 ⟨mix (fun j => B j + 1 * (hi j - lo j + 1)) B S, dayT (dayF Dm L k) L T 1⟩ ⟨by have q9 := hI_859.1.pass (by omega) (by omega) 1 (by omega) (by omega); rw [dayF_1 _ _ _ h0_859, show t + k + 1 = t + (k + 1) by omega] at q9; exact q9, fun n n0 n1 => by dsimp only; rw [mix_lt _ _ _ _ n0 n1]; have q8 := hI_859.2 n n0 n1; have q7 := hI_859.1.1.2.2.2 n n0 n1; omega⟩) (by rfl) (by rfl) rfl)
          · skip
            refine j_iload (pc := 924) C dL_law_924 13 rfl ?_
            refine j_if_ne (pc := 926) C 931 dL_law_926 (by decide) ⟨by omega, by omega⟩ (fun c_926 => ?_) (fun c_926 => absurd c_926 (by omega))
            refine j_iinc (pc := 931) C (x := k) (lv' := [(0, .ref b), (1, .ref (h 0)), (2, .ref o), (3, .int (zI tm)), (7, .int (zI L)), (8, .int (zI (dNow (wz L lo hi su db S) L))), (9, .int (zI lw)), (10, .int (zI hg)), (13, .int (zI v7)), (14, .int (zI v8)), (15, .int (zI v9)), (16, .int (zI ev)), (17, .int (zI (k + 1))), (18, .int (zI (turnC (dayF Dm L k) L)))]) dL_law_931 12 rfl (by decide) [1, 2, 3, 4, 5, 6, 7, 8, 9, 10, 11, 12, 0, 13] rfl ?_
            refine j_goto (pc := 934) C 859 dL_law_934 (by decide) ?_
            refine J.pick (lv' := [(0, .ref b), (1, .ref (h 0)), (2, .ref o), (3, .int (zI tm)), (7, .int (zI L)), (8, .int (zI (dNow (wz L lo hi su db S) L))), (9, .int (zI lw)), (10, .int (zI hg)), (13, .int (zI v7)), (14, .int (zI v8)), (15, .int (zI v9)), (16, .int (zI ev)), (17, .int (zI (k + 1)))]) [0, 1, 2, 3, 4, 5, 6, 7, 8, 9, 10, 11, 12] rfl ?_
            exact J.widen (by omega) (by omega) (J.cast (hk_859 ⟨mix (fun j => B j + 1 * (hi j - lo j + 1)) B S, dayT (dayF Dm L k) L T 1⟩ ⟨by have q9 := hI_859.1.pass (by omega) (by omega) 1 (by omega) (by omega); rw [dayF_1 _ _ _ h0_859, show t + k + 1 = t + (k + 1) by omega] at q9; exact q9, fun n n0 n1 => by dsimp only; rw [mix_lt _ _ _ _ n0 n1]; have q8 := hI_859.2 n n0 n1; have q7 := hI_859.1.1.2.2.2 n n0 n1; omega⟩) (by rfl) (by rfl) rfl)
        · skip
          refine j_iload (pc := 887) C dL_law_887 13 rfl ?_
          refine j_if_ne (pc := 889) C 896 dL_law_889 (by decide) ⟨by omega, by omega⟩ (fun c_889 => ?_) (fun c_889 => ?_)
          · skip
            refine j_iconst (pc := 896) C dL_law_896 ?_
            refine j_iload (pc := 897) C dL_law_897 12 rfl ?_
            refine j_iload (pc := 899) C dL_law_899 11 rfl ?_
            refine j_icmp_lt (pc := 901) C 908 dL_law_901 (by decide) ⟨by omega, by omega⟩ ⟨by omega, by omega⟩ (fun c_901 => ?_) (fun c_901 => ?_)
            · skip
              refine j_iconst (pc := 908) C dL_law_908 ?_
              refine j_icmp_eq (pc := 909) C 919 dL_law_909 (by decide) ⟨by omega, by omega⟩ ⟨by omega, by omega⟩ (fun c_909 => ?_) (fun c_909 => absurd c_909 (by omega))
              refine j_iload (pc := 919) C dL_law_919 11 rfl ?_
              refine j_if_ge (pc := 921) C 931 dL_law_921 (by decide) ⟨by omega, by omega⟩ (fun c_921 => ?_) (fun c_921 => ?_)
              · skip
                refine j_iinc (pc := 931) C (x := k) (lv' := [(0, .ref b), (1, .ref (h 0)), (2, .ref o), (3, .int (zI tm)), (7, .int (zI L)), (8, .int (zI (dNow (wz L lo hi su db S) L))), (9, .int (zI lw)), (10, .int (zI hg)), (13, .int (zI v7)), (14, .int (zI v8)), (15, .int (zI v9)), (16, .int (zI ev)), (17, .int (zI (k + 1))), (18, .int (zI (turnC (dayF Dm L k) L)))]) dL_law_931 12 rfl (by decide) [1, 2, 3, 4, 5, 6, 7, 8, 9, 10, 11, 12, 0, 13] rfl ?_
                refine j_goto (pc := 934) C 859 dL_law_934 (by decide) ?_
                refine J.pick (lv' := [(0, .ref b), (1, .ref (h 0)), (2, .ref o), (3, .int (zI tm)), (7, .int (zI L)), (8, .int (zI (dNow (wz L lo hi su db S) L))), (9, .int (zI lw)), (10, .int (zI hg)), (13, .int (zI v7)), (14, .int (zI v8)), (15, .int (zI v9)), (16, .int (zI ev)), (17, .int (zI (k + 1)))]) [0, 1, 2, 3, 4, 5, 6, 7, 8, 9, 10, 11, 12] rfl ?_
                exact J.widen (by omega) (by omega) (J.cast (hk_859 ⟨mix (fun j => B j + 1 * (hi j - lo j + 1)) B S, dayT (dayF Dm L k) L T 1⟩ ⟨by have q9 := hI_859.1.pass (by omega) (by omega) 1 (by omega) (by omega); rw [dayF_1 _ _ _ h0_859, show t + k + 1 = t + (k + 1) by omega] at q9; exact q9, fun n n0 n1 => by dsimp only; rw [mix_lt _ _ _ _ n0 n1]; have q8 := hI_859.2 n n0 n1; have q7 := hI_859.1.1.2.2.2 n n0 n1; omega⟩) (by rfl) (by rfl) rfl)
              · skip
                refine j_iload (pc := 924) C dL_law_924 13 rfl ?_
                refine j_if_ne (pc := 926) C 931 dL_law_926 (by decide) ⟨by omega, by omega⟩ (fun c_926 => ?_) (fun c_926 => absurd c_926 (by omega))
                refine j_iinc (pc := 931) C (x := k) (lv' := [(0, .ref b), (1, .ref (h 0)), (2, .ref o), (3, .int (zI tm)), (7, .int (zI L)), (8, .int (zI (dNow (wz L lo hi su db S) L))), (9, .int (zI lw)), (10, .int (zI hg)), (13, .int (zI v7)), (14, .int (zI v8)), (15, .int (zI v9)), (16, .int (zI ev)), (17, .int (zI (k + 1))), (18, .int (zI (turnC (dayF Dm L k) L)))]) dL_law_931 12 rfl (by decide) [1, 2, 3, 4, 5, 6, 7, 8, 9, 10, 11, 12, 0, 13] rfl ?_
                refine j_goto (pc := 934) C 859 dL_law_934 (by decide) ?_
                refine J.pick (lv' := [(0, .ref b), (1, .ref (h 0)), (2, .ref o), (3, .int (zI tm)), (7, .int (zI L)), (8, .int (zI (dNow (wz L lo hi su db S) L))), (9, .int (zI lw)), (10, .int (zI hg)), (13, .int (zI v7)), (14, .int (zI v8)), (15, .int (zI v9)), (16, .int (zI ev)), (17, .int (zI (k + 1)))]) [0, 1, 2, 3, 4, 5, 6, 7, 8, 9, 10, 11, 12] rfl ?_
                exact J.widen (by omega) (by omega) (J.cast (hk_859 ⟨mix (fun j => B j + 1 * (hi j - lo j + 1)) B S, dayT (dayF Dm L k) L T 1⟩ ⟨by have q9 := hI_859.1.pass (by omega) (by omega) 1 (by omega) (by omega); rw [dayF_1 _ _ _ h0_859, show t + k + 1 = t + (k + 1) by omega] at q9; exact q9, fun n n0 n1 => by dsimp only; rw [mix_lt _ _ _ _ n0 n1]; have q8 := hI_859.2 n n0 n1; have q7 := hI_859.1.1.2.2.2 n n0 n1; omega⟩) (by rfl) (by rfl) rfl)
            · skip
              refine j_iconst (pc := 904) C dL_law_904 ?_
              refine j_goto (pc := 905) C 909 dL_law_905 (by decide) ?_
              refine j_icmp_eq (pc := 909) C 919 dL_law_909 (by decide) ⟨by omega, by omega⟩ ⟨by omega, by omega⟩ (fun c_909 => absurd c_909 (by omega)) (fun c_909 => ?_)
              refine j_iload (pc := 912) C dL_law_912 12 rfl ?_
              refine j_iload (pc := 914) C dL_law_914 11 rfl ?_
              refine j_icmp_le (pc := 916) C 929 dL_law_916 (by decide) ⟨by omega, by omega⟩ ⟨by omega, by omega⟩ (fun c_916 => absurd c_916 (by omega)) (fun c_916 => ?_)
              refine j_iload (pc := 919) C dL_law_919 11 rfl ?_
              refine j_if_ge (pc := 921) C 931 dL_law_921 (by decide) ⟨by omega, by omega⟩ (fun c_921 => ?_) (fun c_921 => ?_)
              · skip
                refine j_iinc (pc := 931) C (x := k) (lv' := [(0, .ref b), (1, .ref (h 0)), (2, .ref o), (3, .int (zI tm)), (7, .int (zI L)), (8, .int (zI (dNow (wz L lo hi su db S) L))), (9, .int (zI lw)), (10, .int (zI hg)), (13, .int (zI v7)), (14, .int (zI v8)), (15, .int (zI v9)), (16, .int (zI ev)), (17, .int (zI (k + 1))), (18, .int (zI (turnC (dayF Dm L k) L)))]) dL_law_931 12 rfl (by decide) [1, 2, 3, 4, 5, 6, 7, 8, 9, 10, 11, 12, 0, 13] rfl ?_
                refine j_goto (pc := 934) C 859 dL_law_934 (by decide) ?_
                refine J.pick (lv' := [(0, .ref b), (1, .ref (h 0)), (2, .ref o), (3, .int (zI tm)), (7, .int (zI L)), (8, .int (zI (dNow (wz L lo hi su db S) L))), (9, .int (zI lw)), (10, .int (zI hg)), (13, .int (zI v7)), (14, .int (zI v8)), (15, .int (zI v9)), (16, .int (zI ev)), (17, .int (zI (k + 1)))]) [0, 1, 2, 3, 4, 5, 6, 7, 8, 9, 10, 11, 12] rfl ?_
                exact J.widen (by omega) (by omega) (J.cast (hk_859 ⟨mix (fun j => B j + 1 * (hi j - lo j + 1)) B S, dayT (dayF Dm L k) L T 1⟩ ⟨by have q9 := hI_859.1.pass (by omega) (by omega) 1 (by omega) (by omega); rw [dayF_1 _ _ _ h0_859, show t + k + 1 = t + (k + 1) by omega] at q9; exact q9, fun n n0 n1 => by dsimp only; rw [mix_lt _ _ _ _ n0 n1]; have q8 := hI_859.2 n n0 n1; have q7 := hI_859.1.1.2.2.2 n n0 n1; omega⟩) (by rfl) (by rfl) rfl)
              · skip
                refine j_iload (pc := 924) C dL_law_924 13 rfl ?_
                refine j_if_ne (pc := 926) C 931 dL_law_926 (by decide) ⟨by omega, by omega⟩ (fun c_926 => ?_) (fun c_926 => absurd c_926 (by omega))
                refine j_iinc (pc := 931) C (x := k) (lv' := [(0, .ref b), (1, .ref (h 0)), (2, .ref o), (3, .int (zI tm)), (7, .int (zI L)), (8, .int (zI (dNow (wz L lo hi su db S) L))), (9, .int (zI lw)), (10, .int (zI hg)), (13, .int (zI v7)), (14, .int (zI v8)), (15, .int (zI v9)), (16, .int (zI ev)), (17, .int (zI (k + 1))), (18, .int (zI (turnC (dayF Dm L k) L)))]) dL_law_931 12 rfl (by decide) [1, 2, 3, 4, 5, 6, 7, 8, 9, 10, 11, 12, 0, 13] rfl ?_
                refine j_goto (pc := 934) C 859 dL_law_934 (by decide) ?_
                refine J.pick (lv' := [(0, .ref b), (1, .ref (h 0)), (2, .ref o), (3, .int (zI tm)), (7, .int (zI L)), (8, .int (zI (dNow (wz L lo hi su db S) L))), (9, .int (zI lw)), (10, .int (zI hg)), (13, .int (zI v7)), (14, .int (zI v8)), (15, .int (zI v9)), (16, .int (zI ev)), (17, .int (zI (k + 1)))]) [0, 1, 2, 3, 4, 5, 6, 7, 8, 9, 10, 11, 12] rfl ?_
                exact J.widen (by omega) (by omega) (J.cast (hk_859 ⟨mix (fun j => B j + 1 * (hi j - lo j + 1)) B S, dayT (dayF Dm L k) L T 1⟩ ⟨by have q9 := hI_859.1.pass (by omega) (by omega) 1 (by omega) (by omega); rw [dayF_1 _ _ _ h0_859, show t + k + 1 = t + (k + 1) by omega] at q9; exact q9, fun n n0 n1 => by dsimp only; rw [mix_lt _ _ _ _ n0 n1]; have q8 := hI_859.2 n n0 n1; have q7 := hI_859.1.1.2.2.2 n n0 n1; omega⟩) (by rfl) (by rfl) rfl)
          · skip
            refine j_iconst (pc := 892) C dL_law_892 ?_
            refine j_goto (pc := 893) C 897 dL_law_893 (by decide) ?_
            refine j_iload (pc := 897) C dL_law_897 12 rfl ?_
            refine j_iload (pc := 899) C dL_law_899 11 rfl ?_
            refine j_icmp_lt (pc := 901) C 908 dL_law_901 (by decide) ⟨by omega, by omega⟩ ⟨by omega, by omega⟩ (fun c_901 => ?_) (fun c_901 => ?_)
            · skip
              refine j_iconst (pc := 908) C dL_law_908 ?_
              refine j_icmp_eq (pc := 909) C 919 dL_law_909 (by decide) ⟨by omega, by omega⟩ ⟨by omega, by omega⟩ (fun c_909 => absurd c_909 (by omega)) (fun c_909 => ?_)
              refine j_iload (pc := 912) C dL_law_912 12 rfl ?_
              refine j_iload (pc := 914) C dL_law_914 11 rfl ?_
              refine j_icmp_le (pc := 916) C 929 dL_law_916 (by decide) ⟨by omega, by omega⟩ ⟨by omega, by omega⟩ (fun c_916 => absurd c_916 (by omega)) (fun c_916 => ?_)
              refine j_iload (pc := 919) C dL_law_919 11 rfl ?_
              refine j_if_ge (pc := 921) C 931 dL_law_921 (by decide) ⟨by omega, by omega⟩ (fun c_921 => ?_) (fun c_921 => ?_)
              · skip
                refine j_iinc (pc := 931) C (x := k) (lv' := [(0, .ref b), (1, .ref (h 0)), (2, .ref o), (3, .int (zI tm)), (7, .int (zI L)), (8, .int (zI (dNow (wz L lo hi su db S) L))), (9, .int (zI lw)), (10, .int (zI hg)), (13, .int (zI v7)), (14, .int (zI v8)), (15, .int (zI v9)), (16, .int (zI ev)), (17, .int (zI (k + 1))), (18, .int (zI (turnC (dayF Dm L k) L)))]) dL_law_931 12 rfl (by decide) [1, 2, 3, 4, 5, 6, 7, 8, 9, 10, 11, 12, 0, 13] rfl ?_
                refine j_goto (pc := 934) C 859 dL_law_934 (by decide) ?_
                refine J.pick (lv' := [(0, .ref b), (1, .ref (h 0)), (2, .ref o), (3, .int (zI tm)), (7, .int (zI L)), (8, .int (zI (dNow (wz L lo hi su db S) L))), (9, .int (zI lw)), (10, .int (zI hg)), (13, .int (zI v7)), (14, .int (zI v8)), (15, .int (zI v9)), (16, .int (zI ev)), (17, .int (zI (k + 1)))]) [0, 1, 2, 3, 4, 5, 6, 7, 8, 9, 10, 11, 12] rfl ?_
                exact J.widen (by omega) (by omega) (J.cast (hk_859 ⟨mix (fun j => B j + 1 * (hi j - lo j + 1)) B S, dayT (dayF Dm L k) L T 1⟩ ⟨by have q9 := hI_859.1.pass (by omega) (by omega) 1 (by omega) (by omega); rw [dayF_1 _ _ _ h0_859, show t + k + 1 = t + (k + 1) by omega] at q9; exact q9, fun n n0 n1 => by dsimp only; rw [mix_lt _ _ _ _ n0 n1]; have q8 := hI_859.2 n n0 n1; have q7 := hI_859.1.1.2.2.2 n n0 n1; omega⟩) (by rfl) (by rfl) rfl)
              · skip
                refine j_iload (pc := 924) C dL_law_924 13 rfl ?_
                refine j_if_ne (pc := 926) C 931 dL_law_926 (by decide) ⟨by omega, by omega⟩ (fun c_926 => ?_) (fun c_926 => absurd c_926 (by omega))
                refine j_iinc (pc := 931) C (x := k) (lv' := [(0, .ref b), (1, .ref (h 0)), (2, .ref o), (3, .int (zI tm)), (7, .int (zI L)), (8, .int (zI (dNow (wz L lo hi su db S) L))), (9, .int (zI lw)), (10, .int (zI hg)), (13, .int (zI v7)), (14, .int (zI v8)), (15, .int (zI v9)), (16, .int (zI ev)), (17, .int (zI (k + 1))), (18, .int (zI (turnC (dayF Dm L k) L)))]) dL_law_931 12 rfl (by decide) [1, 2, 3, 4, 5, 6, 7, 8, 9, 10, 11, 12, 0, 13] rfl ?_
                refine j_goto (pc := 934) C 859 dL_law_934 (by decide) ?_
                refine J.pick (lv' := [(0, .ref b), (1, .ref (h 0)), (2, .ref o), (3, .int (zI tm)), (7, .int (zI L)), (8, .int (zI (dNow (wz L lo hi su db S) L))), (9, .int (zI lw)), (10, .int (zI hg)), (13, .int (zI v7)), (14, .int (zI v8)), (15, .int (zI v9)), (16, .int (zI ev)), (17, .int (zI (k + 1)))]) [0, 1, 2, 3, 4, 5, 6, 7, 8, 9, 10, 11, 12] rfl ?_
                exact J.widen (by omega) (by omega) (J.cast (hk_859 ⟨mix (fun j => B j + 1 * (hi j - lo j + 1)) B S, dayT (dayF Dm L k) L T 1⟩ ⟨by have q9 := hI_859.1.pass (by omega) (by omega) 1 (by omega) (by omega); rw [dayF_1 _ _ _ h0_859, show t + k + 1 = t + (k + 1) by omega] at q9; exact q9, fun n n0 n1 => by dsimp only; rw [mix_lt _ _ _ _ n0 n1]; have q8 := hI_859.2 n n0 n1; have q7 := hI_859.1.1.2.2.2 n n0 n1; omega⟩) (by rfl) (by rfl) rfl)
            · skip
              refine j_iconst (pc := 904) C dL_law_904 ?_
              refine j_goto (pc := 905) C 909 dL_law_905 (by decide) ?_
              refine j_icmp_eq (pc := 909) C 919 dL_law_909 (by decide) ⟨by omega, by omega⟩ ⟨by omega, by omega⟩ (fun c_909 => ?_) (fun c_909 => absurd c_909 (by omega))
              refine j_iload (pc := 919) C dL_law_919 11 rfl ?_
              refine j_if_ge (pc := 921) C 931 dL_law_921 (by decide) ⟨by omega, by omega⟩ (fun c_921 => ?_) (fun c_921 => ?_)
              · skip
                refine j_iinc (pc := 931) C (x := k) (lv' := [(0, .ref b), (1, .ref (h 0)), (2, .ref o), (3, .int (zI tm)), (7, .int (zI L)), (8, .int (zI (dNow (wz L lo hi su db S) L))), (9, .int (zI lw)), (10, .int (zI hg)), (13, .int (zI v7)), (14, .int (zI v8)), (15, .int (zI v9)), (16, .int (zI ev)), (17, .int (zI (k + 1))), (18, .int (zI (turnC (dayF Dm L k) L)))]) dL_law_931 12 rfl (by decide) [1, 2, 3, 4, 5, 6, 7, 8, 9, 10, 11, 12, 0, 13] rfl ?_
                refine j_goto (pc := 934) C 859 dL_law_934 (by decide) ?_
                refine J.pick (lv' := [(0, .ref b), (1, .ref (h 0)), (2, .ref o), (3, .int (zI tm)), (7, .int (zI L)), (8, .int (zI (dNow (wz L lo hi su db S) L))), (9, .int (zI lw)), (10, .int (zI hg)), (13, .int (zI v7)), (14, .int (zI v8)), (15, .int (zI v9)), (16, .int (zI ev)), (17, .int (zI (k + 1)))]) [0, 1, 2, 3, 4, 5, 6, 7, 8, 9, 10, 11, 12] rfl ?_
                exact J.widen (by omega) (by omega) (J.cast (hk_859 ⟨mix (fun j => B j + 1 * (hi j - lo j + 1)) B S, dayT (dayF Dm L k) L T 1⟩ ⟨by have q9 := hI_859.1.pass (by omega) (by omega) 1 (by omega) (by omega); rw [dayF_1 _ _ _ h0_859, show t + k + 1 = t + (k + 1) by omega] at q9; exact q9, fun n n0 n1 => by dsimp only; rw [mix_lt _ _ _ _ n0 n1]; have q8 := hI_859.2 n n0 n1; have q7 := hI_859.1.1.2.2.2 n n0 n1; omega⟩) (by rfl) (by rfl) rfl)
              · skip
                refine j_iload (pc := 924) C dL_law_924 13 rfl ?_
                refine j_if_ne (pc := 926) C 931 dL_law_926 (by decide) ⟨by omega, by omega⟩ (fun c_926 => ?_) (fun c_926 => absurd c_926 (by omega))
                refine j_iinc (pc := 931) C (x := k) (lv' := [(0, .ref b), (1, .ref (h 0)), (2, .ref o), (3, .int (zI tm)), (7, .int (zI L)), (8, .int (zI (dNow (wz L lo hi su db S) L))), (9, .int (zI lw)), (10, .int (zI hg)), (13, .int (zI v7)), (14, .int (zI v8)), (15, .int (zI v9)), (16, .int (zI ev)), (17, .int (zI (k + 1))), (18, .int (zI (turnC (dayF Dm L k) L)))]) dL_law_931 12 rfl (by decide) [1, 2, 3, 4, 5, 6, 7, 8, 9, 10, 11, 12, 0, 13] rfl ?_
                refine j_goto (pc := 934) C 859 dL_law_934 (by decide) ?_
                refine J.pick (lv' := [(0, .ref b), (1, .ref (h 0)), (2, .ref o), (3, .int (zI tm)), (7, .int (zI L)), (8, .int (zI (dNow (wz L lo hi su db S) L))), (9, .int (zI lw)), (10, .int (zI hg)), (13, .int (zI v7)), (14, .int (zI v8)), (15, .int (zI v9)), (16, .int (zI ev)), (17, .int (zI (k + 1)))]) [0, 1, 2, 3, 4, 5, 6, 7, 8, 9, 10, 11, 12] rfl ?_
                exact J.widen (by omega) (by omega) (J.cast (hk_859 ⟨mix (fun j => B j + 1 * (hi j - lo j + 1)) B S, dayT (dayF Dm L k) L T 1⟩ ⟨by have q9 := hI_859.1.pass (by omega) (by omega) 1 (by omega) (by omega); rw [dayF_1 _ _ _ h0_859, show t + k + 1 = t + (k + 1) by omega] at q9; exact q9, fun n n0 n1 => by dsimp only; rw [mix_lt _ _ _ _ n0 n1]; have q8 := hI_859.2 n n0 n1; have q7 := hI_859.1.1.2.2.2 n n0 n1; omega⟩) (by rfl) (by rfl) rfl)
      · intro x9 hI_859
        obtain ⟨B, T⟩ := x9
        try dsimp only at hI_859 ⊢
        refine j_iload (pc := 859) C dL_law_859 12 rfl ?_
        refine j_iload (pc := 861) C dL_law_861 8 rfl ?_
        refine j_icmp_ge (pc := 863) C 937 dL_law_863 (by decide) ⟨by omega, by omega⟩ ⟨by omega, by omega⟩ (fun c_863 => ?_) (fun c_863 => absurd c_863 (by omega))
        refine J.join (X := Unit) (fun x9 => wG h c1 c2 K (dayF Dm L v7) L lo hi su B S (dy + v7) li so sp T (dayF (mix Dm ah1 L) L (dEnd (fidx (fun j => decide (turnC (dayF (mix Dm ah1 L) L j) L = 0)) 201))) N ++ (gO o la sa (dy + v7) li so sp ++ (gR c2 la L.toNat r ++ (gR c2 sa S.toNat q ++ (gB c1 r L.toNat 2 (fL K (dayF Dm L v7)) ++ (gB c1 q S.toNat 4 (fS lo hi su B) ++ ([]))))))) (fun x9 => [(0, .ref b), (1, .ref (h 0)), (2, .ref o), (3, .int (zI tm)), (7, .int (zI L)), (8, .int (zI (dNow (wz L lo hi su db S) L))), (9, .int (zI lw)), (10, .int (zI hg)), (13, .int (zI v7)), (14, .int (zI v8)), (15, .int (zI v9)), (16, .int (zI ev)), (17, .int (zI v7))]) (fun x9 => []) (fun x9 => True) 953 (k0 + 8) (s0 + 96) ?_ ?_
        · intro x9 hJ_953
          try dsimp only at hJ_953 ⊢
          refine j_aload_n (pc := 953) C dL_law_953 1 rfl ?_
          refine j_callPI (pc := 954) C (As := []) (rest := []) (wr := gO o la sa (dy + v7) li so sp ++ (gR c2 la L.toNat r ++ (gR c2 sa S.toNat q ++ (gB c1 r L.toNat 2 (fL K (dayF Dm L v7)) ++ (gB c1 q S.toNat 4 (fS lo hi su B) ++ ([])))))) (kX0_doubt l D h c1 c2 c3 K (dayF Dm L v7) L lo hi su B S (dy + v7) li so sp T (dayF (mix Dm ah1 L) L (dEnd (fidx (fun j => decide (turnC (dayF (mix Dm ah1 L) L j) L = 0)) 201))) N  hI_859.1.1) (cwV 0 C.2.2.2.2.1 gL_law_X0_doubt rfl rfl rfl (by decide +kernel) ⟨Nat.le_of_ble_eq_true rfl, Nat.le_of_ble_eq_true rfl⟩) 0 (ci := 0) rfl rfl rfl dL_law_954 rfl rfl (Nat.le_of_ble_eq_true rfl) ⟨(by show _ ≤ 600172; omega), (by show _ ≤ 7300668; omega)⟩ ?_
          have eN2_ := wz_eq hI_859.1.1 N
          generalize wg L lo hi su B N S = N2_ at eN2_ ⊢
          refine j_iload (pc := 957) C dL_law_957 5 rfl ?_
          have f959 := eqL_dNow eN2_
          have f958 := dNow_in hL0 hL (wz_B hI_859.1.1)
          have f957 := dNow_mono hL0 (wz_mono hok hI_859.1.1 hI_859.2)
          refine j_icmp_ge (pc := 959) C 964 dL_law_959 (by decide) ⟨by omega, by omega⟩ ⟨by omega, by omega⟩ (fun c_959 => ?_) (fun c_959 => absurd c_959 (by omega))
          refine j_iconst (pc := 964) C dL_law_964 ?_
          refine j_istore (pc := 965) C (lv' := [(0, .ref b), (1, .ref (h 0)), (2, .ref o), (3, .int (zI tm)), (7, .int (zI L)), (8, .int (zI (dNow (wz L lo hi su db S) L))), (9, .int (zI lw)), (10, .int (zI hg)), (13, .int (zI v7)), (14, .int (zI v8)), (15, .int (zI v9)), (16, .int (zI ev)), (17, .int (zI 0))]) dL_law_965 (by decide) [1, 2, 3, 4, 5, 6, 7, 8, 9, 10, 11, 12, 0] rfl ?_
          refine J.pick (lv' := [(0, .ref b), (1, .ref (h 0)), (2, .ref o), (3, .int (zI tm)), (7, .int (zI L)), (9, .int (zI lw)), (10, .int (zI hg)), (17, .int (zI 0))]) [0, 1, 2, 3, 4, 6, 7, 12] rfl ?_
          refine J.cast (ws' := wG h c1 c2 K (dayF Dm L v7) L lo hi su B S (dy + v7) li so sp T (dayF (mix Dm ah1 L) L (dEnd (fidx (fun j => decide (turnC (dayF (mix Dm ah1 L) L j) L = 0)) 201))) N2_ ++ (gO o la sa (dy + v7) li so sp ++ (gR c2 la L.toNat r ++ (gR c2 sa S.toNat q ++ (gB c1 r L.toNat 2 (fL K (dayF Dm L v7)) ++ (gB c1 q S.toNat 4 (fS lo hi su B) ++ ([]))))))) (lv' := [(0, .ref b), (1, .ref (h 0)), (2, .ref o), (3, .int (zI tm)), (7, .int (zI L)), (9, .int (zI lw)), (10, .int (zI hg)), (17, .int (zI (((0 : Int)))))]) ?_ (by rfl) (by rfl) rfl
          refine J.widen (k := k0 + 8) (n := s0 + 96) (by omega) (by omega) ?_
          refine j_loop (X := Unit) (fun (jx : Int) x9 => wG h c1 c2 K (dayF Dm L v7) L lo hi su B S (dy + v7) li so sp T (dayF (mix Dm ah1 L) L (dEnd (fidx (fun j => decide (turnC (dayF (mix Dm ah1 L) L j) L = 0)) 201))) N2_ ++ (gO o la sa (dy + v7) li so sp ++ (gR c2 la L.toNat r ++ (gR c2 sa S.toNat q ++ (gB c1 r L.toNat 2 (fL K (dayF Dm L v7)) ++ (gB c1 q S.toNat 4 (fS lo hi su B) ++ ([]))))))) (fun (jx : Int) x9 => [(0, .ref b), (1, .ref (h 0)), (2, .ref o), (3, .int (zI tm)), (7, .int (zI L)), (9, .int (zI lw)), (10, .int (zI hg)), (17, .int (zI jx))]) (fun (jx : Int) x9 => True) (fun (jx : Int) => k0 + 8) (fun (jx : Int) => s0 + 96) (0 : Int) L (by omega) ?_ ?_ () trivial
          · intro jx x9 h0_967 h1_967 hI_967 hk_967
            try dsimp only at hI_967 hk_967 ⊢
            have hr9 := dayF_rng hlh.2.2 v7 jx h0_967 h1_967
            have hr8 := hlh.1
            have hr7 := hlh.2.1
            refine j_iload (pc := 967) C dL_law_967 7 rfl ?_
            refine j_iload (pc := 969) C dL_law_969 4 rfl ?_
            refine j_icmp_ge (pc := 971) C 1004 dL_law_971 (by decide) ⟨by omega, by omega⟩ ⟨by omega, by omega⟩ (fun c_971 => absurd c_971 (by omega)) (fun c_971 => ?_)
            refine j_aload_n (pc := 974) C dL_law_974 1 rfl ?_
            refine j_iload (pc := 975) C dL_law_975 7 rfl ?_
            refine j_callPI (pc := 977) C (As := [.int (zI jx)]) (rest := []) (wr := gO o la sa (dy + v7) li so sp ++ (gR c2 la L.toNat r ++ (gR c2 sa S.toNat q ++ (gB c1 r L.toNat 2 (fL K (dayF Dm L v7)) ++ (gB c1 q S.toNat 4 (fS lo hi su B) ++ ([])))))) (kX0_dampnessOf l D h c1 c2 c3 K (dayF Dm L v7) L lo hi su B S (dy + v7) li so sp T (dayF (mix Dm ah1 L) L (dEnd (fidx (fun j => decide (turnC (dayF (mix Dm ah1 L) L j) L = 0)) 201))) N2_ jx (by omega) (by omega) (by omega)) (cwV 1 C.2.2.2.2.1 gL_law_X0_dampnessOf rfl rfl rfl (by decide +kernel) ⟨Nat.le_of_ble_eq_true rfl, Nat.le_of_ble_eq_true rfl⟩) 0 (ci := 0) rfl rfl rfl dL_law_977 rfl rfl (Nat.le_of_ble_eq_true rfl) ⟨(by show _ ≤ 600172; omega), (by show _ ≤ 7300668; omega)⟩ ?_
            refine j_iload (pc := 980) C dL_law_980 5 rfl ?_
            refine j_icmp_lt (pc := 982) C 996 dL_law_982 (by decide) ⟨by omega, by omega⟩ ⟨by omega, by omega⟩ (fun c_982 => absurd c_982 (by omega)) (fun c_982 => ?_)
            refine j_aload_n (pc := 985) C dL_law_985 1 rfl ?_
            refine j_iload (pc := 986) C dL_law_986 7 rfl ?_
            refine j_callPI (pc := 988) C (As := [.int (zI jx)]) (rest := []) (wr := gO o la sa (dy + v7) li so sp ++ (gR c2 la L.toNat r ++ (gR c2 sa S.toNat q ++ (gB c1 r L.toNat 2 (fL K (dayF Dm L v7)) ++ (gB c1 q S.toNat 4 (fS lo hi su B) ++ ([])))))) (kX0_dampnessOf l D h c1 c2 c3 K (dayF Dm L v7) L lo hi su B S (dy + v7) li so sp T (dayF (mix Dm ah1 L) L (dEnd (fidx (fun j => decide (turnC (dayF (mix Dm ah1 L) L j) L = 0)) 201))) N2_ jx (by omega) (by omega) (by omega)) (cwV 1 C.2.2.2.2.1 gL_law_X0_dampnessOf rfl rfl rfl (by decide +kernel) ⟨Nat.le_of_ble_eq_true rfl, Nat.le_of_ble_eq_true rfl⟩) 0 (ci := 0) rfl rfl rfl dL_law_988 rfl rfl (Nat.le_of_ble_eq_true rfl) ⟨(by show _ ≤ 600172; omega), (by show _ ≤ 7300668; omega)⟩ ?_
            refine j_iload (pc := 991) C dL_law_991 6 rfl ?_
            refine j_icmp_le (pc := 993) C 998 dL_law_993 (by decide) ⟨by omega, by omega⟩ ⟨by omega, by omega⟩ (fun c_993 => ?_) (fun c_993 => absurd c_993 (by omega))
            refine j_iinc (pc := 998) C (x := jx) (lv' := [(0, .ref b), (1, .ref (h 0)), (2, .ref o), (3, .int (zI tm)), (7, .int (zI L)), (9, .int (zI lw)), (10, .int (zI hg)), (17, .int (zI (jx + 1)))]) dL_law_998 7 rfl (by decide) [1, 2, 3, 4, 5, 6, 7, 0] rfl ?_
            refine j_goto (pc := 1001) C 967 dL_law_1001 (by decide) ?_
            exact J.widen (by omega) (by omega) (J.cast (hk_967 () trivial) (by rfl) (by rfl) rfl)
          · intro x9 hI_967
            try dsimp only at hI_967 ⊢
            refine j_iload (pc := 967) C dL_law_967 7 rfl ?_
            refine j_iload (pc := 969) C dL_law_969 4 rfl ?_
            refine j_icmp_ge (pc := 971) C 1004 dL_law_971 (by decide) ⟨by omega, by omega⟩ ⟨by omega, by omega⟩ (fun c_971 => ?_) (fun c_971 => absurd c_971 (by omega))
            refine J.pick (lv' := [(0, .ref b), (1, .ref (h 0)), (2, .ref o), (3, .int (zI tm))]) [0, 1, 2, 3] rfl ?_
            exact J.widen (by omega) (by omega) (J.cast (k (dayF Dm L v7) B T (dayF (mix Dm ah1 L) L (dEnd (fidx (fun j => decide (turnC (dayF (mix Dm ah1 L) L j) L = 0)) 201))) (dy + v7) N2_ (IU.mk (hI_859.1.mono (by omega)) (by omega) (by omega) (by omega))) rfl rfl rfl)
        · intro kj_953
          try dsimp only at kj_953 ⊢
          refine j_iload (pc := 937) C dL_law_937 4 rfl ?_
          refine j_if_le (pc := 939) C 953 dL_law_939 (by decide) ⟨by omega, by omega⟩ (fun c_939 => ?_) (fun c_939 => ?_)
          · skip
            exact J.widen (by omega) (by omega) (J.cast (kj_953 () trivial) (by rfl) (by rfl) (by rfl))
          · skip
            refine j_aload_n (pc := 942) C dL_law_942 1 rfl ?_
            refine j_iload (pc := 943) C dL_law_943 9 rfl ?_
            refine j_callPI (pc := 945) C (As := [.int (zI v8)]) (rest := []) (wr := gO o la sa (dy + v7) li so sp ++ (gR c2 la L.toNat r ++ (gR c2 sa S.toNat q ++ (gB c1 r L.toNat 2 (fL K (dayF Dm L v7)) ++ (gB c1 q S.toNat 4 (fS lo hi su B) ++ ([])))))) (kX0_dampnessOf l D h c1 c2 c3 K (dayF Dm L v7) L lo hi su B S (dy + v7) li so sp T (dayF (mix Dm ah1 L) L (dEnd (fidx (fun j => decide (turnC (dayF (mix Dm ah1 L) L j) L = 0)) 201))) N v8 (by omega) (by omega) (by omega)) (cwV 1 C.2.2.2.2.1 gL_law_X0_dampnessOf rfl rfl rfl (by decide +kernel) ⟨Nat.le_of_ble_eq_true rfl, Nat.le_of_ble_eq_true rfl⟩) 0 (ci := 0) rfl rfl rfl dL_law_945 rfl rfl (Nat.le_of_ble_eq_true rfl) ⟨(by show _ ≤ 600172; omega), (by show _ ≤ 7300668; omega)⟩ ?_
            refine j_iload (pc := 948) C dL_law_948 10 rfl ?_
            have hv9 := hJ_848.1 (by omega)
            have hr8 := dayF_in hf v7 v8 (by omega) (by omega)
            refine j_icmp_ne (pc := 950) C 962 dL_law_950 (by decide) ⟨by omega, by omega⟩ ⟨by omega, by omega⟩ (fun c_950 => absurd c_950 (by omega)) (fun c_950 => ?_)
            exact J.widen (by omega) (by omega) (J.cast (kj_953 () trivial) (by rfl) (by rfl) (by rfl))
    · intro kj_848
      try dsimp only at kj_848 ⊢
      refine j_iload (pc := 831) C dL_law_831 5 rfl ?_
      refine j_if_ne (pc := 833) C 840 dL_law_833 (by decide) ⟨by omega, by omega⟩ (fun c_833 => ?_) (fun c_833 => ?_)
      · skip
        refine j_aload_n (pc := 840) C dL_law_840 1 rfl ?_
        refine j_iload (pc := 841) C dL_law_841 10 rfl ?_
        refine j_iload (pc := 843) C dL_law_843 9 rfl ?_
        refine j_callPI (pc := 845) C (As := [.int (zI v8), .int (zI v7)]) (rest := []) (wr := gO o la sa dy li so sp ++ (gR c2 la L.toNat r ++ (gR c2 sa S.toNat q ++ (gB c1 r L.toNat 2 (fL K Dm) ++ (gB c1 q S.toNat 4 (fS lo hi su db) ++ ([])))))) (kX0_dampnessIn l D h c1 c2 c3 K Dm L lo hi su db S dy li so sp tu ah N v8 v7 (by omega) (by omega) hok.2.2.1 (by omega) (by omega) (by omega) (by omega)) (cwV 2 C.2.2.2.2.1 gL_law_X0_dampnessIn rfl rfl rfl (by decide +kernel) ⟨Nat.le_of_ble_eq_true rfl, Nat.le_of_ble_eq_true rfl⟩) 0 (ci := 0) rfl rfl rfl dL_law_845 rfl rfl (Nat.le_of_ble_eq_true rfl) ⟨(by show _ ≤ 600172; omega), (by show _ ≤ 7300668; omega)⟩ ?_
        exact J.widen (by omega) (by omega) (J.cast (kj_848 ⟨(dayF (mix Dm ah L) L v7) v8, dayT (mix Dm ah L) L tu v7, dayF (mix Dm ah L) L v7⟩ ⟨fun _ => dayF_eq (mixI _ _ _) v7 v8 (by omega) (by omega), fun z => absurd z (by omega)⟩) (by rfl) (by rfl) (by rfl))
      · skip
        refine j_iconst (pc := 836) C dL_law_836 ?_
        refine j_goto (pc := 837) C 848 dL_law_837 (by decide) ?_
        exact J.widen (by omega) (by omega) (J.cast (kj_848 ⟨0, tu, ah⟩ ⟨fun z => absurd z (by omega), fun _ => rfl⟩) (by rfl) (by rfl) (by rfl))
  · intro kj_829
    try dsimp only at kj_829 ⊢
    refine j_iload (pc := 810) C dL_law_810 5 rfl ?_
    refine j_if_ne (pc := 812) C 819 dL_law_812 (by decide) ⟨by omega, by omega⟩ (fun c_812 => ?_) (fun c_812 => ?_)
    · skip
      refine j_iload (pc := 819) C dL_law_819 4 rfl ?_
      refine j_bipush (pc := 821) C dL_law_821 (by decide +kernel) ?_
      refine j_ishr (pc := 823) C (sh_eq x 7) dL_law_823 ?_
      refine j_iload (pc := 824) C dL_law_824 5 rfl ?_
      refine j_callSI (pc := 826) C (As := [.int (zI (sh x 7)), .int (zI L)]) (rest := []) (kL_below l D c1 c2 c3 (sh x 7) L (by omega) (by omega)) (va_cwS 2 C.2.2.2.2.1 gL_law_L_below rfl rfl rfl (by decide +kernel) ⟨Nat.le_of_ble_eq_true rfl, Nat.le_of_ble_eq_true rfl⟩) dL_law_826 rfl rfl (Nat.le_of_ble_eq_true rfl) ⟨(by show _ ≤ 600172; omega), (by show _ ≤ 7300668; omega)⟩ ?_
      have b_826 := bl_in (v := sh x 7) (n := L) (by omega)
      exact J.widen (by omega) (by omega) (J.cast (kj_829 (bl (sh x 7) L) ⟨by omega, by omega⟩) (by rfl) (by rfl) (by rfl))
    · skip
      refine j_iconst (pc := 815) C dL_law_815 ?_
      refine j_goto (pc := 816) C 829 dL_law_816 (by decide) ?_
      exact J.widen (by omega) (by omega) (J.cast (kj_829 0 ⟨by omega, by omega⟩) (by rfl) (by rfl) (by rfl))
end LW
