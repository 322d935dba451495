/-! ===== the law: its body ===== -/
section LW
variable {p : Program} {l : Launch} {e : Env} {s : State} {m : MethodId} {args : Array Value} {below : List Frame} {meth : Method} {c : Code} {D : va_G} {c1 c2 c3 : ClassId} {A : Nat → Prop} {Q : State → Prop}
set_option maxHeartbeats 8000000 in
set_option maxRecDepth 100000 in
theorem lwS0 (C : GC p s m args meth c cL_law 19 RL wsL_law D (tyS c1 c2 c3) A) (ho : va_AOA .int s) (o b n : Nat) (xs : Nat → Int32) (h : Nat → Nat) (K Dm : Int → Int) (L : Int) (lo hi su db : Int → Int) (S dy li so sp : Int) (tu ah : Int → Int) (M : Int → Int → Int) (la sa : Nat) (r q : Nat → Nat) (tm t : Int) (k0 s0 : Nat) (hE : E2 b n xs s) (hn : n ≤ 260) (hbA : ¬ A b) (htm : 0 ≤ tm) (htm7 : tm < 7) (hI : IU t (K, Dm, L, lo, hi, su, db, S, dy, li, so, sp, tu, ah, M, la, sa, r, q)) (t0 : 0 ≤ t) (t1 : t < 400) (hk0 : k0 ≤ 100000) (hs0 : s0 ≤ 1000000) (k : ∀ (x : Int) (K : Int → Int) (Dm : Int → Int) (L : Int) (lo : Int → Int) (hi : Int → Int) (su : Int → Int) (db : Int → Int) (S : Int) (dy : Int) (li : Int) (so : Int) (sp : Int) (tu : Int → Int) (ah : Int → Int) (M : Int → Int → Int) (la : Nat) (sa : Nat) (r : Nat → Nat) (q : Nat → Nat), IU (t + 2) (K, Dm, L, lo, hi, su, db, S, dy, li, so, sp, tu, ah, M, la, sa, r, q) → J p l e room_1 s m args below meth c 19 D A (k0 + 120) (s0 + 1400) Q (wG h c1 c2 K Dm L lo hi su db S dy li so sp tu ah M ++ (gO o la sa dy li so sp ++ (gR c2 la L.toNat r ++ (gR c2 sa S.toNat q ++ (gB c1 r L.toNat 2 (fL K Dm) ++ (gB c1 q S.toNat 4 (fS lo hi su db) ++ ([]))))))) [(0, .ref b), (1, .ref (h 0)), (2, .ref o), (3, .int (zI tm)), (4, .int (zI x))] 82 []) : J p l e room_1 s m args below meth c 19 D A (k0) (s0) Q (wG h c1 c2 K Dm L lo hi su db S dy li so sp tu ah M ++ (gO o la sa dy li so sp ++ (gR c2 la L.toNat r ++ (gR c2 sa S.toNat q ++ (gB c1 r L.toNat 2 (fL K Dm) ++ (gB c1 q S.toNat 4 (fS lo hi su db) ++ ([]))))))) [(0, .ref b), (1, .ref (h 0)), (2, .ref o), (3, .int (zI tm))] 28 [] := by
  refine j_aload_n (pc := 28) C dL_law_28 0 rfl ?_
  refine j_iload_n (pc := 29) C dL_law_29 3 rfl ?_
  refine j_iconst (pc := 30) C dL_law_30 ?_
  refine j_iadd (pc := 31) C dL_law_31 ?_
  refine J.cast (ws' := ([] : va_W) ++ (wG h c1 c2 K Dm L lo hi su db S dy li so sp tu ah M ++ (gO o la sa dy li so sp ++ (gR c2 la L.toNat r ++ (gR c2 sa S.toNat q ++ (gB c1 r L.toNat 2 (fL K Dm) ++ (gB c1 q S.toNat 4 (fS lo hi su db) ++ ([])))))))) ?_ rfl rfl rfl
  refine j_callSEI (pc := 32) C E2.be (E2.he hE hbA) (As := [.ref b, .int (zI (tm + 1))]) (rest := []) (w0 := []) (wr := wG h c1 c2 K Dm L lo hi su db S dy li so sp tu ah M ++ (gO o la sa dy li so sp ++ (gR c2 la L.toNat r ++ (gR c2 sa S.toNat q ++ (gB c1 r L.toNat 2 (fL K Dm) ++ (gB c1 q S.toNat 4 (fS lo hi su db) ++ ([]))))))) (kL_cell l D c1 c2 c3 b n xs (tm + 1) hn (by omega) (by omega)) (va_cwS 2 C.2.2.2.2.1 gL_law_L_cell rfl rfl rfl (by decide +kernel) ⟨Nat.le_of_ble_eq_true rfl, Nat.le_of_ble_eq_true rfl⟩) dL_law_32 rfl rfl (Nat.le_of_ble_eq_true rfl) ⟨(by show _ ≤ 600172; omega), (by show _ ≤ 7300668; omega)⟩ (fun u1_ _ => ?_)
  refine J.cast (ws' := wG h c1 c2 K Dm L lo hi su db S dy li so sp tu ah M ++ (gO o la sa dy li so sp ++ (gR c2 la L.toNat r ++ (gR c2 sa S.toNat q ++ (gB c1 r L.toNat 2 (fL K Dm) ++ (gB c1 q S.toNat 4 (fS lo hi su db) ++ ([]))))))) ?_ rfl rfl rfl
  refine j_iconst (pc := 35) C dL_law_35 ?_
  refine j_ishr (pc := 36) C (sh_eq (cv xs n 790386105 (tm + 1)) 2) dL_law_36 ?_
  refine j_bipush (pc := 37) C dL_law_37 (by decide +kernel) ?_
  refine j_iload_n (pc := 39) C dL_law_39 3 rfl ?_
  refine j_imul (pc := 40) C dL_law_40 ?_
  refine j_iadd (pc := 41) C dL_law_41 ?_
  refine j_istore (pc := 42) C (lv' := [(0, .ref b), (1, .ref (h 0)), (2, .ref o), (3, .int (zI tm)), (4, .int (zI ((sh (cv xs n 790386105 (tm + 1)) 2) + (53 * tm))))]) dL_law_42 (by decide) [1, 2, 3, 4, 0] rfl ?_
  obtain ⟨x, hx⟩ : ∃ v, v = (sh (cv xs n 790386105 (tm + 1)) 2) + (53 * tm) := ⟨_, rfl⟩
  refine J.cast (ws' := wG h c1 c2 K Dm L lo hi su db S dy li so sp tu ah M ++ (gO o la sa dy li so sp ++ (gR c2 la L.toNat r ++ (gR c2 sa S.toNat q ++ (gB c1 r L.toNat 2 (fL K Dm) ++ (gB c1 q S.toNat 4 (fS lo hi su db) ++ ([]))))))) (lv' := [(0, .ref b), (1, .ref (h 0)), (2, .ref o), (3, .int (zI tm)), (4, .int (zI x))]) (st' := []) ?_ (by rfl) (by rw [hx]) (by rfl)
  refine j_iconst (pc := 44) C dL_law_44 ?_
  refine j_istore (pc := 45) C (lv' := [(0, .ref b), (1, .ref (h 0)), (2, .ref o), (3, .int (zI tm)), (4, .int (zI x)), (5, .int (zI 0))]) dL_law_45 (by decide) [1, 2, 3, 4, 5, 0] rfl ?_
  refine J.cast (ws' := wG h c1 c2 K Dm L lo hi su db S dy li so sp tu ah M ++ (gO o la sa dy li so sp ++ (gR c2 la L.toNat r ++ (gR c2 sa S.toNat q ++ (gB c1 r L.toNat 2 (fL K Dm) ++ (gB c1 q S.toNat 4 (fS lo hi su db) ++ ([]))))))) (lv' := [(0, .ref b), (1, .ref (h 0)), (2, .ref o), (3, .int (zI tm)), (4, .int (zI x)), (5, .int (zI (((0 : Int)))))]) ?_ (by rfl) (by rfl) rfl
  refine J.widen (k := k0 + 60 * ((0 : Int)).toNat) (n := s0 + 700 * ((0 : Int)).toNat) (by omega) (by omega) ?_
  refine j_loop (X := (Int → Int) × (Int → Int) × Int × (Int → Int) × (Int → Int) × (Int → Int) × (Int → Int) × Int × Int × Int × Int × Int × (Int → Int) × (Int → Int) × (Int → Int → Int) × Nat × Nat × (Nat → Nat) × (Nat → Nat)) (fun (k : Int) x9 => wG h c1 c2 x9.1 x9.2.1 x9.2.2.1 x9.2.2.2.1 x9.2.2.2.2.1 x9.2.2.2.2.2.1 x9.2.2.2.2.2.2.1 x9.2.2.2.2.2.2.2.1 x9.2.2.2.2.2.2.2.2.1 x9.2.2.2.2.2.2.2.2.2.1 x9.2.2.2.2.2.2.2.2.2.2.1 x9.2.2.2.2.2.2.2.2.2.2.2.1 x9.2.2.2.2.2.2.2.2.2.2.2.2.1 x9.2.2.2.2.2.2.2.2.2.2.2.2.2.1 x9.2.2.2.2.2.2.2.2.2.2.2.2.2.2.1 ++ (gO o x9.2.2.2.2.2.2.2.2.2.2.2.2.2.2.2.1 x9.2.2.2.2.2.2.2.2.2.2.2.2.2.2.2.2.1 x9.2.2.2.2.2.2.2.2.1 x9.2.2.2.2.2.2.2.2.2.1 x9.2.2.2.2.2.2.2.2.2.2.1 x9.2.2.2.2.2.2.2.2.2.2.2.1 ++ (gR c2 x9.2.2.2.2.2.2.2.2.2.2.2.2.2.2.2.1 x9.2.2.1.toNat x9.2.2.2.2.2.2.2.2.2.2.2.2.2.2.2.2.2.1 ++ (gR c2 x9.2.2.2.2.2.2.2.2.2.2.2.2.2.2.2.2.1 x9.2.2.2.2.2.2.2.1.toNat x9.2.2.2.2.2.2.2.2.2.2.2.2.2.2.2.2.2.2 ++ (gB c1 x9.2.2.2.2.2.2.2.2.2.2.2.2.2.2.2.2.2.1 x9.2.2.1.toNat 2 (fL x9.1 x9.2.1) ++ (gB c1 x9.2.2.2.2.2.2.2.2.2.2.2.2.2.2.2.2.2.2 x9.2.2.2.2.2.2.2.1.toNat 4 (fS x9.2.2.2.1 x9.2.2.2.2.1 x9.2.2.2.2.2.1 x9.2.2.2.2.2.2.1) ++ ([]))))))) (fun (k : Int) x9 => [(0, .ref b), (1, .ref (h 0)), (2, .ref o), (3, .int (zI tm)), (4, .int (zI x)), (5, .int (zI k))]) (fun (k : Int) x9 => IU (t + k) (x9.1, x9.2.1, x9.2.2.1, x9.2.2.2.1, x9.2.2.2.2.1, x9.2.2.2.2.2.1, x9.2.2.2.2.2.2.1, x9.2.2.2.2.2.2.2.1, x9.2.2.2.2.2.2.2.2.1, x9.2.2.2.2.2.2.2.2.2.1, x9.2.2.2.2.2.2.2.2.2.2.1, x9.2.2.2.2.2.2.2.2.2.2.2.1, x9.2.2.2.2.2.2.2.2.2.2.2.2.1, x9.2.2.2.2.2.2.2.2.2.2.2.2.2.1, x9.2.2.2.2.2.2.2.2.2.2.2.2.2.2.1, x9.2.2.2.2.2.2.2.2.2.2.2.2.2.2.2.1, x9.2.2.2.2.2.2.2.2.2.2.2.2.2.2.2.2.1, x9.2.2.2.2.2.2.2.2.2.2.2.2.2.2.2.2.2.1, x9.2.2.2.2.2.2.2.2.2.2.2.2.2.2.2.2.2.2)) (fun (k : Int) => k0 + 60 * k.toNat) (fun (k : Int) => s0 + 700 * k.toNat) (0 : Int) 2 (by omega) ?_ ?_ ⟨K, Dm, L, lo, hi, su, db, S, dy, li, so, sp, tu, ah, M, la, sa, r, q⟩ (by rw [show t + 0 = t by omega]; exact hI)
  · intro k x9 h0_47 h1_47 hI_47 hk_47
    obtain ⟨K, Dm, L, lo, hi, su, db, S, dy, li, so, sp, tu, ah, M, la, sa, r, q⟩ := x9
    try dsimp only at hI_47 hk_47 ⊢
    refine j_iload (pc := 47) C dL_law_47 5 rfl ?_
    refine j_iconst (pc := 49) C dL_law_49 ?_
    refine j_icmp_ge (pc := 50) C 82 dL_law_50 (by decide) ⟨by omega, by omega⟩ ⟨by omega, by omega⟩ (fun c_50 => absurd c_50 (by omega)) (fun c_50 => ?_)
    refine j_aload_n (pc := 53) C dL_law_53 1 rfl ?_
    refine j_aload_n (pc := 54) C dL_law_54 2 rfl ?_
    refine j_iload (pc := 55) C dL_law_55 4 rfl ?_
    refine j_iconst (pc := 57) C dL_law_57 ?_
    refine j_iload (pc := 58) C dL_law_58 5 rfl ?_
    refine j_imul (pc := 60) C dL_law_60 ?_
    refine j_ishr (pc := 61) C (sh_eq x (3 * k)) dL_law_61 ?_
    refine j_bipush (pc := 62) C dL_law_62 (by decide +kernel) ?_
    refine j_iload (pc := 64) C dL_law_64 5 rfl ?_
    refine j_imul (pc := 66) C dL_law_66 ?_
    refine j_iadd (pc := 67) C dL_law_67 ?_
    refine J.perm (ws' := wU h c1 c2 o (K, Dm, L, lo, hi, su, db, S, dy, li, so, sp, tu, ah, M, la, sa, r, q) ++ []) (perm_of_count (fun cnt h1_ h0_ => by simp only [wU, wS, wGS, h1_, h0_] <;> omega)) ?_
    refine j_callSEI (pc := 68) C E1.be (E1.he ho) (As := [.ref (h 0), .ref o, .int (zI ((sh x (3 * k)) + (29 * k)))]) (rest := []) (w0 := wU h c1 c2 o (K, Dm, L, lo, hi, su, db, S, dy, li, so, sp, tu, ah, M, la, sa, r, q)) (wr := []) (kL_act l D c1 c2 c3 h K Dm L lo hi su db S dy li so sp tu ah M o la sa r q (t + k) ((sh x (3 * k)) + (29 * k)) hI_47 (by omega) (by omega)) (va_cwS 3 C.2.2.2.2.1 gL_law_L_act rfl rfl rfl (by decide +kernel) ⟨Nat.le_of_ble_eq_true rfl, Nat.le_of_ble_eq_true rfl⟩) dL_law_68 rfl rfl (Nat.le_of_ble_eq_true rfl) ⟨(by show _ ≤ 600172; omega), (by show _ ≤ 7300668; omega)⟩ (fun u2_ hu2_ => ?_)
    obtain ⟨K, Dm, L, lo, hi, su, db, S, dy, li, so, sp, tu, ah, M, la, sa, r, q⟩ := u2_
    try dsimp only at hu2_ ⊢
    refine J.perm (ws' := wG h c1 c2 K Dm L lo hi su db S dy li so sp tu ah M ++ (gO o la sa dy li so sp ++ (gR c2 la L.toNat r ++ (gR c2 sa S.toNat q ++ (gB c1 r L.toNat 2 (fL K Dm) ++ (gB c1 q S.toNat 4 (fS lo hi su db) ++ ([]))))))) (perm_of_count (fun cnt h1_ h0_ => by simp only [wU, wS, wGS, h1_, h0_] <;> omega)) ?_
    refine j_if_ne (pc := 71) C 76 dL_law_71 (by decide) ⟨by omega, by omega⟩ (fun c_71 => ?_) (fun c_71 => absurd c_71 (by omega))
    refine j_iinc (pc := 76) C (x := k) (lv' := [(0, .ref b), (1, .ref (h 0)), (2, .ref o), (3, .int (zI tm)), (4, .int (zI x)), (5, .int (zI (k + 1)))]) dL_law_76 5 rfl (by decide) [1, 2, 3, 4, 5, 0] rfl ?_
    refine j_goto (pc := 79) C 47 dL_law_79 (by decide) ?_
    exact J.widen (by omega) (by omega) (J.cast (hk_47 ⟨K, Dm, L, lo, hi, su, db, S, dy, li, so, sp, tu, ah, M, la, sa, r, q⟩ (by rw [show t + (k + 1) = t + k + 1 by omega]; exact hu2_)) (by rfl) (by rfl) rfl)
  · intro x9 hI_47
    obtain ⟨K, Dm, L, lo, hi, su, db, S, dy, li, so, sp, tu, ah, M, la, sa, r, q⟩ := x9
    try dsimp only at hI_47 ⊢
    refine j_iload (pc := 47) C dL_law_47 5 rfl ?_
    refine j_iconst (pc := 49) C dL_law_49 ?_
    refine j_icmp_ge (pc := 50) C 82 dL_law_50 (by decide) ⟨by omega, by omega⟩ ⟨by omega, by omega⟩ (fun c_50 => ?_) (fun c_50 => absurd c_50 (by omega))
    refine J.pick (lv' := [(0, .ref b), (1, .ref (h 0)), (2, .ref o), (3, .int (zI tm)), (4, .int (zI x))]) [0, 1, 2, 3, 4] rfl ?_
    exact J.widen (by omega) (by omega) (J.cast (k x K Dm L lo hi su db S dy li so sp tu ah M la sa r q hI_47) rfl rfl rfl)
end LW
