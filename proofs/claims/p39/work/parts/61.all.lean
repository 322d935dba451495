/-! ===== the law: seven times ===== -/
theorem IU.mono {t t' : Int} : ∀ {u : GU}, IU t u → t ≤ t' → IU t' u
  | (_, _, _, _, _, _, _, _, _, _, _, _, _, _, _, _, _, _, _), h, ht => by
    obtain ⟨h1, h2, h3, h4⟩ := h
    exact IU.mk (h1.mono ht) ⟨h2.1, by omega⟩ ⟨h3.1, by omega⟩ ⟨h4.1, by omega⟩
set_option maxHeartbeats 8000000 in
set_option maxRecDepth 100000 in
theorem lw_all {p : Program} {l : Launch} {e : Env} {s : State} {m : MethodId} {below : List Frame} {meth : Method} {c : Code} {D : va_G} {c1 c2 c3 : ClassId} {h : Nat → Nat} {o b n : Nat} {xs : Nat → Int32} (C : GC p s m #[Value.ref b] meth c cL_law 19 RL wsL_law D (tyS c1 c2 c3) (fun q : Nat => s.heap.size ≤ q)) (hr : meth.sig.returnType = ret) (hE : E2 b n xs s) (hn : n ≤ 260) (u : GU) (hu : IU 20 u) : J p l e room_1 s m #[Value.ref b] below meth c 19 D (fun q : Nat => s.heap.size ≤ q) 200 2000 (lw_Z below #[Value.ref b] s) (wU h c1 c2 o u) [(0, .ref b), (1, .ref (h 0)), (2, .ref o), (3, .int (zI 0))] 22 [] := by
  have ho : va_AOA .int s := hE.1
  have hbA : ¬ (fun q : Nat => s.heap.size ≤ q) b := Nat.not_le.mpr hE.2.2.2
  refine J.widen (k := 200 + 1000 * (0 : Int).toNat) (n := 2000 + 20000 * (0 : Int).toNat) (by omega) (by omega) ?_
  refine j_loop (X := GU) (fun (i : Int) x9 => wU h c1 c2 o x9) (fun (i : Int) x9 => [(0, .ref b), (1, .ref (h 0)), (2, .ref o), (3, .int (zI i))]) (fun (i : Int) x9 => IU (20 + 20 * i) x9) (fun (i : Int) => 200 + 1000 * i.toNat) (fun (i : Int) => 2000 + 20000 * i.toNat) (0 : Int) 7 (by omega) ?_ ?_ u (by rw [show (20 : Int) + 20 * 0 = 20 by omega]; exact hu)
  · intro i x9 h0 h1 hI hk
    try dsimp only at hI hk ⊢
    obtain ⟨K, Dm, L, lo, hi, su, db, S, dy, li, so, sp, tu, ah, M, la, sa, r, q⟩ := x9
    refine J.perm (ws' := wG h c1 c2 K Dm L lo hi su db S dy li so sp tu ah M ++ (gO o la sa dy li so sp ++ (gR c2 la L.toNat r ++ (gR c2 sa S.toNat q ++ (gB c1 r L.toNat 2 (fL K Dm) ++ (gB c1 q S.toNat 4 (fS lo hi su db) ++ ([]))))))) (perm_of_count (fun cnt h1_ h0_ => by simp only [wU, wS, wGS, h1_, h0_] <;> omega)) ?_
    refine j_iload_n (pc := 22) C dL_law_22 3 rfl ?_
    refine j_bipush (pc := 23) C dL_law_23 (by decide +kernel) ?_
    refine j_icmp_ge (pc := 25) C 1010 dL_law_25 (by decide) ⟨by omega, by omega⟩ ⟨by omega, by omega⟩ (fun q9 => absurd q9 (by omega)) (fun _ => ?_)
    refine lwS0 C ho o b n xs h K Dm L lo hi su db S dy li so sp tu ah M la sa r q i (20 + 20 * i) (200 + 1000 * i.toNat) (2000 + 20000 * i.toNat) hE hn hbA h0 h1 hI (by omega) (by omega) (by omega) (by omega) (fun x K Dm L lo hi su db S dy li so sp tu ah M la sa r q hI => ?_)
    have hR := hI.1
    refine lwS1 C ho o b h K Dm L lo hi su db S dy li so sp tu ah M la sa r q i x (200 + 1000 * i.toNat + 120) (2000 + 20000 * i.toNat + 1400) (20 + 20 * i + 2) hI (by omega) (by omega) (by omega) (by omega) (fun N q1 q2 r1 r2 => ?_)
    refine lwS2 C ho o b h K Dm L lo hi su db S dy li so sp tu ah M la sa r q i x (200 + 1000 * i.toNat + 120 + 26) (2000 + 20000 * i.toNat + 1400 + 312) (20 + 20 * i + 2) N q1 q2 r1 r2 _ hI (by omega) (by omega) (by omega) (by omega) (fun N lw hg hlh => ?_)
    refine lwS3 C ho o b h K Dm L lo hi su db S dy li so sp tu ah M la sa r q i x (200 + 1000 * i.toNat + 120 + 26) (2000 + 20000 * i.toNat + 1400 + 312) (20 + 20 * i + 2) N q1 q2 r1 r2 _ lw hg hI (by omega) (by omega) (by omega) (by omega) (fun N => ?_)
    refine lwS4 C ho o b h K Dm L lo hi su db S dy li so sp tu ah M la sa r q i x (200 + 1000 * i.toNat + 120 + 26 + 1) (2000 + 20000 * i.toNat + 1400 + 312 + 13) (20 + 20 * i + 2) N q1 q2 r1 r2 lw hg hI (by omega) (by omega) (by omega) (by omega) (fun lo1 hi1 su1 db1 N e1 e2 e3 e4 => ?_)
    have ew : wz L lo hi su db S = wz L lo1 hi1 su1 db1 S := wg_pre _ hR.1.2.1.1 e1 e2 e3 e4
    rw [ew]
    have hI3 : IU (20 + 20 * i + 2) (K, Dm, L, lo1, hi1, su1, db1, S, dy, li, so, sp, tu, ah, N, la, sa, r, q) := IU.mk (Rel.cg hR e1 e2 e3 e4) hI.2.1 hI.2.2.1 hI.2.2.2
    refine lwS5 C ho o b h K Dm L lo1 hi1 su1 db1 S dy li so sp tu ah N la sa r q i x (200 + 1000 * i.toNat + 120 + 26 + 1) (2000 + 20000 * i.toNat + 1400 + 312 + 13) (20 + 20 * i + 2) N lw hg hI3 (by omega) (by omega) (by omega) (by omega) hlh (fun Dm1 db2 tu1 ah1 dy1 N1 hI4 => ?_)
    refine j_iinc (pc := 1004) C (x := i) (lv' := [(0, .ref b), (1, .ref (h 0)), (2, .ref o), (3, .int (zI (i + 1)))]) dL_law_1004 3 rfl (by decide) [1, 2, 3, 0] rfl ?_
    refine j_goto (pc := 1007) C 22 dL_law_1007 (by decide) ?_
    have k9 := hk (K, Dm1, L, lo1, hi1, su1, db2, S, dy1, li, so, sp, tu1, ah1, N1, la, sa, r, q) (hI4.mono (by omega))
    refine J.widen (k := 200 + 1000 * (i + 1).toNat) (n := 2000 + 20000 * (i + 1).toNat) (by omega) (by omega) ?_
    exact J.perm (perm_of_count (fun cnt h1_ h0_ => by simp only [wU, wS, wGS, h1_, h0_] <;> omega)) k9
  · intro x9 hI
    try dsimp only at hI ⊢
    obtain ⟨K, Dm, L, lo, hi, su, db, S, dy, li, so, sp, tu, ah, M, la, sa, r, q⟩ := x9
    refine j_iload_n (pc := 22) C dL_law_22 3 rfl ?_
    refine j_bipush (pc := 23) C dL_law_23 (by decide +kernel) ?_
    refine j_icmp_ge (pc := 25) C 1010 dL_law_25 (by decide) ⟨by omega, by omega⟩ ⟨by omega, by omega⟩ (fun _ => ?_) (fun q9 => absurd q9 (by omega))
    refine j_aload_n (pc := 1010) C dL_law_1010 2 rfl ?_
    refine j_aload_n (pc := 1011) C dL_law_1011 1 rfl ?_
    refine J.cast (ws' := wU h c1 c2 o (K, Dm, L, lo, hi, su, db, S, dy, li, so, sp, tu, ah, M, la, sa, r, q) ++ []) ?_ (List.append_nil _).symm rfl rfl
    refine j_callEI (pc := 1012) C E1.be (E1.he ho) (As := [.ref (h 0)]) (rest := []) (w0 := wU h c1 c2 o (K, Dm, L, lo, hi, su, db, S, dy, li, so, sp, tu, ah, M, la, sa, r, q)) (wr := []) (kX1_isSame l D c1 c2 c3 h K Dm L lo hi su db S dy li so sp tu ah M o la sa r q (20 + 20 * 7) hI (by omega) (by omega)) (cwV 1 C.2.2.2.2.1 gL_law_X1_isSame rfl rfl rfl (by decide +kernel) ⟨Nat.le_of_ble_eq_true rfl, Nat.le_of_ble_eq_true rfl⟩) 23 (ci := 1) rfl rfl rfl dL_law_1012 rfl rfl (Nat.le_of_ble_eq_true rfl) ⟨by show _ ≤ 600172; omega, by show _ ≤ 7300668; omega⟩ (fun _ _ => ?_)
    intro H locs ls hP hD hS hl
    refine va_forget (fun q hq => hS.2.2 q hq) ?_
    refine W.widen (k := 600172) (n := 7300668) (by omega) (by omega) ?_
    rw [show zI 1 = 1 by decide +kernel]
    exact lw_ret (d0 := s.drawn) (Drawn.sameBut.refl s.drawn lw_cs) C.1 C.2.1 hr C.2.2.2.2.2.2.2 dL_law_1015
