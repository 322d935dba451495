/-! ===== the law: its body ===== -/
section LW
variable {p : Program} {l : Launch} {e : Env} {s : State} {m : MethodId} {args : Array Value} {below : List Frame} {meth : Method} {c : Code} {D : va_G} {c1 c2 c3 : ClassId} {A : Nat → Prop} {Q : State → Prop}
set_option maxHeartbeats 8000000 in
set_option maxRecDepth 100000 in
theorem lwS2 (C : GC p s m args meth c cL_law 19 RL wsL_law D (tyS c1 c2 c3) A) (ho : va_AOA .int s) (o b : Nat) (h : Nat → Nat) (K Dm : Int → Int) (L : Int) (lo hi su db : Int → Int) (S dy li so sp : Int) (tu ah : Int → Int) (M : Int → Int → Int) (la sa : Nat) (r q : Nat → Nat) (tm x : Int) (k0 s0 : Nat) (t : Int) (N : Int → Int → Int) (q1 q2 : Nat) (r1 r2 : Nat → Nat) (d0 : Int64) (hI : IU t (K, Dm, L, lo, hi, su, db, S, dy, li, so, sp, tu, ah, M, la, sa, r, q)) (t0 : 0 ≤ t) (t1 : t < 500) (hk0 : k0 ≤ 100000) (hs0 : s0 ≤ 1000000) (k : ∀ (N : Int → Int → Int) (lw hg : Int), (0 ≤ lw ∧ lw ≤ 40) ∧ (0 ≤ hg ∧ hg ≤ 40) ∧ (∀ j, 0 ≤ j → j < L → lw ≤ Dm j ∧ Dm j ≤ hg) → J p l e room_1 s m args below meth c 19 D A (k0) (s0) Q (wG h c1 c2 K Dm L lo hi su db S dy li so sp tu ah N ++ (gR c2 q1 L.toNat r1 ++ (gB c1 r1 L.toNat L.toNat (gl (wz L lo hi su db S)) ++ (gR c2 q2 L.toNat r2 ++ (gB c1 r2 L.toNat L.toNat (gm (wz L lo hi su db S)) ++ (gO o la sa dy li so sp ++ (gR c2 la L.toNat r ++ (gR c2 sa S.toNat q ++ (gB c1 r L.toNat 2 (fL K Dm) ++ (gB c1 q S.toNat 4 (fS lo hi su db) ++ ([]))))))))))) [(0, .ref b), (1, .ref (h 0)), (2, .ref o), (3, .int (zI tm)), (4, .int (zI x)), (5, .long d0), (7, .int (zI L)), (8, .int (zI (dNow (wz L lo hi su db S) L))), (9, .int (zI lw)), (10, .int (zI hg)), (11, .ref q1), (12, .ref q2)] 507 []) : J p l e room_1 s m args below meth c 19 D A (k0) (s0) Q (wG h c1 c2 K Dm L lo hi su db S dy li so sp tu ah N ++ (gR c2 q1 L.toNat r1 ++ (gB c1 r1 L.toNat L.toNat (gl (wz L lo hi su db S)) ++ (gR c2 q2 L.toNat r2 ++ (gB c1 r2 L.toNat L.toNat (gm (wz L lo hi su db S)) ++ (gO o la sa dy li so sp ++ (gR c2 la L.toNat r ++ (gR c2 sa S.toNat q ++ (gB c1 r L.toNat 2 (fL K Dm) ++ (gB c1 q S.toNat 4 (fS lo hi su db) ++ ([]))))))))))) [(0, .ref b), (1, .ref (h 0)), (2, .ref o), (3, .int (zI tm)), (4, .int (zI x)), (5, .long d0), (7, .int (zI L)), (8, .int (zI 0)), (9, .int (zI 40)), (10, .int (zI 0)), (11, .ref q1), (12, .ref q2)] 189 [] := by
  obtain ⟨hR, hdy, hso, hsp⟩ := id hI
  have hok := hR.1
  obtain ⟨⟨hL0, hL⟩, ⟨hS0, hS⟩, hf, hs⟩ := id hok
  have hkK := hR.2.2.1
  have hli := hR.2.2.2.1
  have hB := wz_B hok
  have hT := wz_T hok
  have hE9 := wz_E hok
  have hW9 := wz_ok hok
  refine j_iconst (pc := 189) C dL_law_189 ?_
  refine j_istore (pc := 190) C (lv' := [(0, .ref b), (1, .ref (h 0)), (2, .ref o), (3, .int (zI tm)), (4, .int (zI x)), (5, .long d0), (7, .int (zI L)), (8, .int (zI 0)), (9, .int (zI 40)), (10, .int (zI 0)), (11, .ref q1), (12, .ref q2), (13, .int (zI 0))]) dL_law_190 (by decide) [1, 2, 3, 4, 5, 6, 7, 8, 9, 10, 11, 12, 0] rfl ?_
  refine J.cast (ws' := wG h c1 c2 K Dm L lo hi su db S dy li so sp tu ah N ++ (gR c2 q1 L.toNat r1 ++ (gB c1 r1 L.toNat L.toNat (gl (wz L lo hi su db S)) ++ (gR c2 q2 L.toNat r2 ++ (gB c1 r2 L.toNat L.toNat (gm (wz L lo hi su db S)) ++ (gO o la sa dy li so sp ++ (gR c2 la L.toNat r ++ (gR c2 sa S.toNat q ++ (gB c1 r L.toNat 2 (fL K Dm) ++ (gB c1 q S.toNat 4 (fS lo hi su db) ++ ([]))))))))))) (lv' := [(0, .ref b), (1, .ref (h 0)), (2, .ref o), (3, .int (zI tm)), (4, .int (zI x)), (5, .long d0), (7, .int (zI L)), (8, .int (zI (zs (fun j => (wz L lo hi su db S) j (j + 1) - -((wz L lo hi su db S) (j + 1) j)) 0 ((0 : Int))))), (9, .int (zI 40)), (10, .int (zI 0)), (11, .ref q1), (12, .ref q2), (13, .int (zI (((0 : Int)))))]) ?_ (by rfl) (by rw [zs_0]) rfl
  refine J.widen (k := k0) (n := s0) (by omega) (by omega) ?_
  refine j_loop (X := (Int → Int → Int) × Int × Int) (fun (i : Int) x9 => wG h c1 c2 K Dm L lo hi su db S dy li so sp tu ah x9.1 ++ (gR c2 q1 L.toNat r1 ++ (gB c1 r1 L.toNat L.toNat (gl (wz L lo hi su db S)) ++ (gR c2 q2 L.toNat r2 ++ (gB c1 r2 L.toNat L.toNat (gm (wz L lo hi su db S)) ++ (gO o la sa dy li so sp ++ (gR c2 la L.toNat r ++ (gR c2 sa S.toNat q ++ (gB c1 r L.toNat 2 (fL K Dm) ++ (gB c1 q S.toNat 4 (fS lo hi su db) ++ ([]))))))))))) (fun (i : Int) x9 => [(0, .ref b), (1, .ref (h 0)), (2, .ref o), (3, .int (zI tm)), (4, .int (zI x)), (5, .long d0), (7, .int (zI L)), (8, .int (zI (zs (fun j => (wz L lo hi su db S) j (j + 1) - -((wz L lo hi su db S) (j + 1) j)) 0 i))), (9, .int (zI x9.2.1)), (10, .int (zI x9.2.2)), (11, .ref q1), (12, .ref q2), (13, .int (zI i))]) (fun (i : Int) x9 => (0 ≤ x9.2.1 ∧ x9.2.1 ≤ 40) ∧ (0 ≤ x9.2.2 ∧ x9.2.2 ≤ 40) ∧ ∀ j, 0 ≤ j → j < i → x9.2.1 ≤ Dm j ∧ Dm j ≤ x9.2.2) (fun (i : Int) => k0) (fun (i : Int) => s0) (0 : Int) L (by omega) ?_ ?_ ⟨N, 40, 0⟩ ⟨⟨by show (0 : Int) ≤ 40; omega, by show (40 : Int) ≤ 40; omega⟩, ⟨by show (0 : Int) ≤ 0; omega, by show (0 : Int) ≤ 40; omega⟩, fun j a b => absurd b (by omega)⟩
  · intro i x9 h0_192 h1_192 hI_192 hk_192
    obtain ⟨N, lw, hg⟩ := x9
    try dsimp only at hI_192 hk_192 ⊢
    have hfi := hf i h0_192 h1_192
    have w3 := (hW9.1 i (i + 1) h0_192 (by omega) (by omega) (by omega)).1
    have w4 := (hW9.1 (i + 1) i (by omega) (by omega) h0_192 (by omega)).1
    have z3 := zs_up Dm 0 i h0_192
    have he9 := hE9.1 i h0_192 h1_192
    obtain ⟨hl1, hl2, hl3⟩ := id hI_192
    refine j_iload (pc := 192) C dL_law_192 12 rfl ?_
    refine j_iload (pc := 194) C dL_law_194 6 rfl ?_
    refine j_icmp_ge (pc := 196) C 507 dL_law_196 (by decide) ⟨by omega, by omega⟩ ⟨by omega, by omega⟩ (fun c_196 => absurd c_196 (by omega)) (fun c_196 => ?_)
    refine j_aload_n (pc := 199) C dL_law_199 1 rfl ?_
    refine j_iload (pc := 200) C dL_law_200 12 rfl ?_
    refine j_callPI (pc := 202) C (As := [.int (zI i)]) (rest := []) (wr := gR c2 q1 L.toNat r1 ++ (gB c1 r1 L.toNat L.toNat (gl (wz L lo hi su db S)) ++ (gR c2 q2 L.toNat r2 ++ (gB c1 r2 L.toNat L.toNat (gm (wz L lo hi su db S)) ++ (gO o la sa dy li so sp ++ (gR c2 la L.toNat r ++ (gR c2 sa S.toNat q ++ (gB c1 r L.toNat 2 (fL K Dm) ++ (gB c1 q S.toNat 4 (fS lo hi su db) ++ ([])))))))))) (kX0_dampnessOf l D h c1 c2 c3 K Dm L lo hi su db S dy li so sp tu ah N i (by omega) (by omega) (by omega)) (cwV 1 C.2.2.2.2.1 gL_law_X0_dampnessOf rfl rfl rfl (by decide +kernel) ⟨Nat.le_of_ble_eq_true rfl, Nat.le_of_ble_eq_true rfl⟩) 0 (ci := 0) rfl rfl rfl dL_law_202 rfl rfl (Nat.le_of_ble_eq_true rfl) ⟨(by show _ ≤ 600172; omega), (by show _ ≤ 7300668; omega)⟩ ?_
    refine j_istore (pc := 205) C (lv' := [(0, .ref b), (1, .ref (h 0)), (2, .ref o), (3, .int (zI tm)), (4, .int (zI x)), (5, .long d0), (7, .int (zI L)), (8, .int (zI (zs (fun j => (wz L lo hi su db S) j (j + 1) - -((wz L lo hi su db S) (j + 1) j)) 0 i))), (9, .int (zI lw)), (10, .int (zI hg)), (11, .ref q1), (12, .ref q2), (13, .int (zI i)), (14, .int (zI (Dm i)))]) dL_law_205 (by decide) [1, 2, 3, 4, 5, 6, 7, 8, 9, 10, 11, 12, 13, 0] rfl ?_
    refine j_iload (pc := 207) C dL_law_207 7 rfl ?_
    refine j_aload_n (pc := 209) C dL_law_209 1 rfl ?_
    refine j_iload (pc := 210) C dL_law_210 12 rfl ?_
    refine j_callPI (pc := 212) C (As := [.int (zI i)]) (rest := [.int (zI (zs (fun j => (wz L lo hi su db S) j (j + 1) - -((wz L lo hi su db S) (j + 1) j)) 0 i))]) (wr := gR c2 q1 L.toNat r1 ++ (gB c1 r1 L.toNat L.toNat (gl (wz L lo hi su db S)) ++ (gR c2 q2 L.toNat r2 ++ (gB c1 r2 L.toNat L.toNat (gm (wz L lo hi su db S)) ++ (gO o la sa dy li so sp ++ (gR c2 la L.toNat r ++ (gR c2 sa S.toNat q ++ (gB c1 r L.toNat 2 (fL K Dm) ++ (gB c1 q S.toNat 4 (fS lo hi su db) ++ ([])))))))))) (kX0_greatestOf l D h c1 c2 c3 K Dm L lo hi su db S dy li so sp tu ah N i hok (by omega) (by omega)) (cwV 1 C.2.2.2.2.1 gL_law_X0_greatestOf rfl rfl rfl (by decide +kernel) ⟨Nat.le_of_ble_eq_true rfl, Nat.le_of_ble_eq_true rfl⟩) 0 (ci := 0) rfl rfl rfl dL_law_212 rfl rfl (Nat.le_of_ble_eq_true rfl) ⟨(by show _ ≤ 600172; omega), (by show _ ≤ 7300668; omega)⟩ ?_
    have eN1_ := wz_eq hok N
    generalize wg L lo hi su db N S = N1_ at eN1_ ⊢
    refine j_aload_n (pc := 215) C dL_law_215 1 rfl ?_
    refine j_iload (pc := 216) C dL_law_216 12 rfl ?_
    refine j_callPI (pc := 218) C (As := [.int (zI i)]) (rest := [.int (zI (N1_ i (i + 1))), .int (zI (zs (fun j => (wz L lo hi su db S) j (j + 1) - -((wz L lo hi su db S) (j + 1) j)) 0 i))]) (wr := gR c2 q1 L.toNat r1 ++ (gB c1 r1 L.toNat L.toNat (gl (wz L lo hi su db S)) ++ (gR c2 q2 L.toNat r2 ++ (gB c1 r2 L.toNat L.toNat (gm (wz L lo hi su db S)) ++ (gO o la sa dy li so sp ++ (gR c2 la L.toNat r ++ (gR c2 sa S.toNat q ++ (gB c1 r L.toNat 2 (fL K Dm) ++ (gB c1 q S.toNat 4 (fS lo hi su db) ++ ([])))))))))) (kX0_leastOf l D h c1 c2 c3 K Dm L lo hi su db S dy li so sp tu ah N1_ i hok (by omega) (by omega)) (cwV 1 C.2.2.2.2.1 gL_law_X0_leastOf rfl rfl rfl (by decide +kernel) ⟨Nat.le_of_ble_eq_true rfl, Nat.le_of_ble_eq_true rfl⟩) 0 (ci := 0) rfl rfl rfl dL_law_218 rfl rfl (Nat.le_of_ble_eq_true rfl) ⟨(by show _ ≤ 600172; omega), (by show _ ≤ 7300668; omega)⟩ ?_
    have eN2_ := wz_eq hok N1_
    generalize wg L lo hi su db N1_ S = N2_ at eN2_ ⊢
    refine j_isub (pc := 221) C dL_law_221 ?_
    refine j_iadd (pc := 222) C dL_law_222 ?_
    refine j_istore (pc := 223) C (lv' := [(0, .ref b), (1, .ref (h 0)), (2, .ref o), (3, .int (zI tm)), (4, .int (zI x)), (5, .long d0), (7, .int (zI L)), (8, .int (zI ((zs (fun j => (wz L lo hi su db S) j (j + 1) - -((wz L lo hi su db S) (j + 1) j)) 0 i) + ((N1_ i (i + 1)) - (-(N2_ (i + 1) i)))))), (9, .int (zI lw)), (10, .int (zI hg)), (11, .ref q1), (12, .ref q2), (13, .int (zI i)), (14, .int (zI (Dm i)))]) dL_law_223 (by decide) [1, 2, 3, 4, 5, 6, 7, 0, 8, 9, 10, 11, 12, 13] rfl ?_
    refine J.cast (ws' := wG h c1 c2 K Dm L lo hi su db S dy li so sp tu ah N2_ ++ (gR c2 q1 L.toNat r1 ++ (gB c1 r1 L.toNat L.toNat (gl (wz L lo hi su db S)) ++ (gR c2 q2 L.toNat r2 ++ (gB c1 r2 L.toNat L.toNat (gm (wz L lo hi su db S)) ++ (gO o la sa dy li so sp ++ (gR c2 la L.toNat r ++ (gR c2 sa S.toNat q ++ (gB c1 r L.toNat 2 (fL K Dm) ++ (gB c1 q S.toNat 4 (fS lo hi su db) ++ ([]))))))))))) (lv' := [(0, .ref b), (1, .ref (h 0)), (2, .ref o), (3, .int (zI tm)), (4, .int (zI x)), (5, .long d0), (7, .int (zI L)), (8, .int (zI (zs (fun j => (wz L lo hi su db S) j (j + 1) - -((wz L lo hi su db S) (j + 1) j)) 0 i + ((wz L lo hi su db S) i (i + 1) - -((wz L lo hi su db S) (i + 1) i))))), (9, .int (zI lw)), (10, .int (zI hg)), (11, .ref q1), (12, .ref q2), (13, .int (zI i)), (14, .int (zI (Dm i)))]) (st' := []) ?_ (by rfl) (by rw [eN1_ i (i + 1) h0_192 (by omega) (by omega) (by omega), eN2_ (i + 1) i (by omega) (by omega) h0_192 (by omega)]) (by rfl)
    refine j_iload (pc := 225) C dL_law_225 8 rfl ?_
    refine j_iload (pc := 227) C dL_law_227 13 rfl ?_
    refine j_min (pc := 229) C (C.w 5 (lw_w5)) (C.w 6 (lw_w6)) (C.w 7 (lw_w7)) (C.w 8 (lw_w8)) (Nat.le_of_ble_eq_true rfl) (Nat.le_of_ble_eq_true rfl) (by show _ ≤ 600172; omega) (by show _ ≤ 7300668; omega) ⟨by omega, by omega⟩ ⟨by omega, by omega⟩ dL_law_229 ?_
    refine j_istore (pc := 232) C (lv' := [(0, .ref b), (1, .ref (h 0)), (2, .ref o), (3, .int (zI tm)), (4, .int (zI x)), (5, .long d0), (7, .int (zI L)), (8, .int (zI (zs (fun j => (wz L lo hi su db S) j (j + 1) - -((wz L lo hi su db S) (j + 1) j)) 0 i + ((wz L lo hi su db S) i (i + 1) - -((wz L lo hi su db S) (i + 1) i))))), (9, .int (zI (min lw (Dm i)))), (10, .int (zI hg)), (11, .ref q1), (12, .ref q2), (13, .int (zI i)), (14, .int (zI (Dm i)))]) dL_law_232 (by decide) [1, 2, 3, 4, 5, 6, 7, 8, 0, 9, 10, 11, 12, 13] rfl ?_
    refine j_iload (pc := 234) C dL_law_234 9 rfl ?_
    refine j_iload (pc := 236) C dL_law_236 13 rfl ?_
    refine j_max (pc := 238) C (C.w 9 (lw_w9)) (C.w 10 (lw_w10)) (C.w 7 (lw_w7)) (C.w 11 (lw_w11)) (Nat.le_of_ble_eq_true rfl) (Nat.le_of_ble_eq_true rfl) (by show _ ≤ 600172; omega) (by show _ ≤ 7300668; omega) ⟨by omega, by omega⟩ ⟨by omega, by omega⟩ dL_law_238 ?_
    refine j_istore (pc := 241) C (lv' := [(0, .ref b), (1, .ref (h 0)), (2, .ref o), (3, .int (zI tm)), (4, .int (zI x)), (5, .long d0), (7, .int (zI L)), (8, .int (zI (zs (fun j => (wz L lo hi su db S) j (j + 1) - -((wz L lo hi su db S) (j + 1) j)) 0 i + ((wz L lo hi su db S) i (i + 1) - -((wz L lo hi su db S) (i + 1) i))))), (9, .int (zI (min lw (Dm i)))), (10, .int (zI (max hg (Dm i)))), (11, .ref q1), (12, .ref q2), (13, .int (zI i)), (14, .int (zI (Dm i)))]) dL_law_241 (by decide) [1, 2, 3, 4, 5, 6, 7, 8, 9, 0, 10, 11, 12, 13] rfl ?_
    refine j_iload (pc := 243) C dL_law_243 13 rfl ?_
    refine j_aload_n (pc := 245) C dL_law_245 1 rfl ?_
    refine j_iload (pc := 246) C dL_law_246 12 rfl ?_
    refine j_callPI (pc := 248) C (As := [.int (zI i)]) (rest := [.int (zI (Dm i))]) (wr := gR c2 q1 L.toNat r1 ++ (gB c1 r1 L.toNat L.toNat (gl (wz L lo hi su db S)) ++ (gR c2 q2 L.toNat r2 ++ (gB c1 r2 L.toNat L.toNat (gm (wz L lo hi su db S)) ++ (gO o la sa dy li so sp ++ (gR c2 la L.toNat r ++ (gR c2 sa S.toNat q ++ (gB c1 r L.toNat 2 (fL K Dm) ++ (gB c1 q S.toNat 4 (fS lo hi su db) ++ ([])))))))))) (kX0_leastOf l D h c1 c2 c3 K Dm L lo hi su db S dy li so sp tu ah N2_ i hok (by omega) (by omega)) (cwV 1 C.2.2.2.2.1 gL_law_X0_leastOf rfl rfl rfl (by decide +kernel) ⟨Nat.le_of_ble_eq_true rfl, Nat.le_of_ble_eq_true rfl⟩) 0 (ci := 0) rfl rfl rfl dL_law_248 rfl rfl (Nat.le_of_ble_eq_true rfl) ⟨(by show _ ≤ 600172; omega), (by show _ ≤ 7300668; omega)⟩ ?_
    have eN3_ := wz_eq hok N2_
    generalize wg L lo hi su db N2_ S = N3_ at eN3_ ⊢
    have f9 := eN3_ (i + 1) i (by omega) (by omega) h0_192 (by omega)
    refine j_icmp_lt (pc := 251) C 305 dL_law_251 (by decide) ⟨by omega, by omega⟩ ⟨by omega, by omega⟩ (fun c_251 => absurd c_251 (by omega)) (fun c_251 => ?_)
    refine j_iload (pc := 254) C dL_law_254 13 rfl ?_
    refine j_aload_n (pc := 256) C dL_law_256 1 rfl ?_
    refine j_iload (pc := 257) C dL_law_257 12 rfl ?_
    refine j_callPI (pc := 259) C (As := [.int (zI i)]) (rest := [.int (zI (Dm i))]) (wr := gR c2 q1 L.toNat r1 ++ (gB c1 r1 L.toNat L.toNat (gl (wz L lo hi su db S)) ++ (gR c2 q2 L.toNat r2 ++ (gB c1 r2 L.toNat L.toNat (gm (wz L lo hi su db S)) ++ (gO o la sa dy li so sp ++ (gR c2 la L.toNat r ++ (gR c2 sa S.toNat q ++ (gB c1 r L.toNat 2 (fL K Dm) ++ (gB c1 q S.toNat 4 (fS lo hi su db) ++ ([])))))))))) (kX0_greatestOf l D h c1 c2 c3 K Dm L lo hi su db S dy li so sp tu ah N3_ i hok (by omega) (by omega)) (cwV 1 C.2.2.2.2.1 gL_law_X0_greatestOf rfl rfl rfl (by decide +kernel) ⟨Nat.le_of_ble_eq_true rfl, Nat.le_of_ble_eq_true rfl⟩) 0 (ci := 0) rfl rfl rfl dL_law_259 rfl rfl (Nat.le_of_ble_eq_true rfl) ⟨(by show _ ≤ 600172; omega), (by show _ ≤ 7300668; omega)⟩ ?_
    have eN4_ := wz_eq hok N3_
    generalize wg L lo hi su db N3_ S = N4_ at eN4_ ⊢
    have f9 := eN4_ i (i + 1) h0_192 (by omega) (by omega) (by omega)
    refine j_icmp_gt (pc := 262) C 305 dL_law_262 (by decide) ⟨by omega, by omega⟩ ⟨by omega, by omega⟩ (fun c_262 => absurd c_262 (by omega)) (fun c_262 => ?_)
    refine j_aload_n (pc := 265) C dL_law_265 1 rfl ?_
    refine j_iload (pc := 266) C dL_law_266 12 rfl ?_
    refine j_callPI (pc := 268) C (As := [.int (zI i)]) (rest := []) (wr := gR c2 q1 L.toNat r1 ++ (gB c1 r1 L.toNat L.toNat (gl (wz L lo hi su db S)) ++ (gR c2 q2 L.toNat r2 ++ (gB c1 r2 L.toNat L.toNat (gm (wz L lo hi su db S)) ++ (gO o la sa dy li so sp ++ (gR c2 la L.toNat r ++ (gR c2 sa S.toNat q ++ (gB c1 r L.toNat 2 (fL K Dm) ++ (gB c1 q S.toNat 4 (fS lo hi su db) ++ ([])))))))))) (kX0_leastOf l D h c1 c2 c3 K Dm L lo hi su db S dy li so sp tu ah N4_ i hok (by omega) (by omega)) (cwV 1 C.2.2.2.2.1 gL_law_X0_leastOf rfl rfl rfl (by decide +kernel) ⟨Nat.le_of_ble_eq_true rfl, Nat.le_of_ble_eq_true rfl⟩) 0 (ci := 0) rfl rfl rfl dL_law_268 rfl rfl (Nat.le_of_ble_eq_true rfl) ⟨(by show _ ≤ 600172; omega), (by show _ ≤ 7300668; omega)⟩ ?_
    have eN5_ := wz_eq hok N4_
    generalize wg L lo hi su db N4_ S = N5_ at eN5_ ⊢
    have f9 := eN5_ (i + 1) i (by omega) (by omega) h0_192 (by omega)
    refine j_if_lt (pc := 271) C 305 dL_law_271 (by decide) ⟨by omega, by omega⟩ (fun c_271 => absurd c_271 (by omega)) (fun c_271 => ?_)
    refine j_aload_n (pc := 274) C dL_law_274 1 rfl ?_
    refine j_iload (pc := 275) C dL_law_275 12 rfl ?_
    refine j_callPI (pc := 277) C (As := [.int (zI i)]) (rest := []) (wr := gR c2 q1 L.toNat r1 ++ (gB c1 r1 L.toNat L.toNat (gl (wz L lo hi su db S)) ++ (gR c2 q2 L.toNat r2 ++ (gB c1 r2 L.toNat L.toNat (gm (wz L lo hi su db S)) ++ (gO o la sa dy li so sp ++ (gR c2 la L.toNat r ++ (gR c2 sa S.toNat q ++ (gB c1 r L.toNat 2 (fL K Dm) ++ (gB c1 q S.toNat 4 (fS lo hi su db) ++ ([])))))))))) (kX0_greatestOf l D h c1 c2 c3 K Dm L lo hi su db S dy li so sp tu ah N5_ i hok (by omega) (by omega)) (cwV 1 C.2.2.2.2.1 gL_law_X0_greatestOf rfl rfl rfl (by decide +kernel) ⟨Nat.le_of_ble_eq_true rfl, Nat.le_of_ble_eq_true rfl⟩) 0 (ci := 0) rfl rfl rfl dL_law_277 rfl rfl (Nat.le_of_ble_eq_true rfl) ⟨(by show _ ≤ 600172; omega), (by show _ ≤ 7300668; omega)⟩ ?_
    have eN6_ := wz_eq hok N5_
    generalize wg L lo hi su db N5_ S = N6_ at eN6_ ⊢
    refine j_bipush (pc := 280) C dL_law_280 (by decide +kernel) ?_
    have f9 := eN6_ i (i + 1) h0_192 (by omega) (by omega) (by omega)
    refine j_icmp_gt (pc := 282) C 305 dL_law_282 (by decide) ⟨by omega, by omega⟩ ⟨by omega, by omega⟩ (fun c_282 => absurd c_282 (by omega)) (fun c_282 => ?_)
    refine J.join (X := (Int → Int → Int)) (fun x9 => wG h c1 c2 K Dm L lo hi su db S dy li so sp tu ah x9 ++ (gR c2 q1 L.toNat r1 ++ (gB c1 r1 L.toNat L.toNat (gl (wz L lo hi su db S)) ++ (gR c2 q2 L.toNat r2 ++ (gB c1 r2 L.toNat L.toNat (gm (wz L lo hi su db S)) ++ (gO o la sa dy li so sp ++ (gR c2 la L.toNat r ++ (gR c2 sa S.toNat q ++ (gB c1 r L.toNat 2 (fL K Dm) ++ (gB c1 q S.toNat 4 (fS lo hi su db) ++ ([]))))))))))) (fun x9 => [(0, .ref b), (1, .ref (h 0)), (2, .ref o), (3, .int (zI tm)), (4, .int (zI x)), (5, .long d0), (7, .int (zI L)), (8, .int (zI (zs (fun j => (wz L lo hi su db S) j (j + 1) - -((wz L lo hi su db S) (j + 1) j)) 0 i + ((wz L lo hi su db S) i (i + 1) - -((wz L lo hi su db S) (i + 1) i))))), (9, .int (zI (min lw (Dm i)))), (10, .int (zI (max hg (Dm i)))), (11, .ref q1), (12, .ref q2), (13, .int (zI i)), (14, .int (zI (Dm i)))]) (fun x9 => []) (fun x9 => True) 307 (k0) (s0) ?_ ?_
    · intro x9 hJ_307
      generalize x9 = N3 at hJ_307 ⊢
      try dsimp only at hJ_307 ⊢
      refine j_iload (pc := 307) C dL_law_307 12 rfl ?_
      refine j_istore (pc := 309) C (lv' := [(0, .ref b), (1, .ref (h 0)), (2, .ref o), (3, .int (zI tm)), (4, .int (zI x)), (5, .long d0), (7, .int (zI L)), (8, .int (zI (zs (fun j => (wz L lo hi su db S) j (j + 1) - -((wz L lo hi su db S) (j + 1) j)) 0 i + ((wz L lo hi su db S) i (i + 1) - -((wz L lo hi su db S) (i + 1) i))))), (9, .int (zI (min lw (Dm i)))), (10, .int (zI (max hg (Dm i)))), (11, .ref q1), (12, .ref q2), (13, .int (zI i)), (14, .int (zI (Dm i))), (15, .int (zI i))]) dL_law_309 (by decide) [1, 2, 3, 4, 5, 6, 7, 8, 9, 10, 11, 12, 13, 14, 0] rfl ?_
      refine J.pick (lv' := [(0, .ref b), (1, .ref (h 0)), (2, .ref o), (3, .int (zI tm)), (4, .int (zI x)), (5, .long d0), (7, .int (zI L)), (8, .int (zI (zs (fun j => (wz L lo hi su db S) j (j + 1) - -((wz L lo hi su db S) (j + 1) j)) 0 i + ((wz L lo hi su db S) i (i + 1) - -((wz L lo hi su db S) (i + 1) i))))), (9, .int (zI (min lw (Dm i)))), (10, .int (zI (max hg (Dm i)))), (11, .ref q1), (12, .ref q2), (13, .int (zI i)), (15, .int (zI i))]) [0, 1, 2, 3, 4, 5, 6, 7, 8, 9, 10, 11, 12, 14] rfl ?_
      refine J.cast (ws' := wG h c1 c2 K Dm L lo hi su db S dy li so sp tu ah N3 ++ (gR c2 q1 L.toNat r1 ++ (gB c1 r1 L.toNat L.toNat (gl (wz L lo hi su db S)) ++ (gR c2 q2 L.toNat r2 ++ (gB c1 r2 L.toNat L.toNat (gm (wz L lo hi su db S)) ++ (gO o la sa dy li so sp ++ (gR c2 la L.toNat r ++ (gR c2 sa S.toNat q ++ (gB c1 r L.toNat 2 (fL K Dm) ++ (gB c1 q S.toNat 4 (fS lo hi su db) ++ ([]))))))))))) (lv' := [(0, .ref b), (1, .ref (h 0)), (2, .ref o), (3, .int (zI tm)), (4, .int (zI x)), (5, .long d0), (7, .int (zI L)), (8, .int (zI (zs (fun j => (wz L lo hi su db S) j (j + 1) - -((wz L lo hi su db S) (j + 1) j)) 0 i + ((wz L lo hi su db S) i (i + 1) - -((wz L lo hi su db S) (i + 1) i))))), (9, .int (zI (min lw (Dm i)))), (10, .int (zI (max hg (Dm i)))), (11, .ref q1), (12, .ref q2), (13, .int (zI i)), (15, .int (zI i))]) ?_ (by rfl) (by rfl) rfl
      refine J.widen (k := k0) (n := s0) (by omega) (by omega) ?_
      refine j_loop (X := Unit) (fun (jj : Int) x9 => wG h c1 c2 K Dm L lo hi su db S dy li so sp tu ah N3 ++ (gR c2 q1 L.toNat r1 ++ (gB c1 r1 L.toNat L.toNat (gl (wz L lo hi su db S)) ++ (gR c2 q2 L.toNat r2 ++ (gB c1 r2 L.toNat L.toNat (gm (wz L lo hi su db S)) ++ (gO o la sa dy li so sp ++ (gR c2 la L.toNat r ++ (gR c2 sa S.toNat q ++ (gB c1 r L.toNat 2 (fL K Dm) ++ (gB c1 q S.toNat 4 (fS lo hi su db) ++ ([]))))))))))) (fun (jj : Int) x9 => [(0, .ref b), (1, .ref (h 0)), (2, .ref o), (3, .int (zI tm)), (4, .int (zI x)), (5, .long d0), (7, .int (zI L)), (8, .int (zI (zs (fun j => (wz L lo hi su db S) j (j + 1) - -((wz L lo hi su db S) (j + 1) j)) 0 i + ((wz L lo hi su db S) i (i + 1) - -((wz L lo hi su db S) (i + 1) i))))), (9, .int (zI (min lw (Dm i)))), (10, .int (zI (max hg (Dm i)))), (11, .ref q1), (12, .ref q2), (13, .int (zI i)), (15, .int (zI jj))]) (fun (jj : Int) x9 => True) (fun (jj : Int) => k0) (fun (jj : Int) => s0) i L (by omega) ?_ ?_ () trivial
      · intro jj x9 h0_311 h1_311 hI_311 hk_311
        try dsimp only at hI_311 hk_311 ⊢
        have g1 := gl_at (W := (wz L lo hi su db S)) (p := i) (t := jj) h0_311
        have g2 := gm_at (W := (wz L lo hi su db S)) (p := i) (t := jj) h0_311
        have w1 := (hW9.1 i (jj + 1) h0_192 (by omega) (by omega) (by omega)).1
        have w2 := (hW9.1 (jj + 1) i (by omega) (by omega) h0_192 (by omega)).1
        have z1 := zs_cat Dm 0 i (jj + 1) h0_192 (by omega)
        have z2 := zs_bnd hf i (jj + 1) h0_192 (by omega) (by omega)
        have b1 := hB i (jj + 1) h0_192 (by omega) (by omega) (by omega)
        have b2 := hB (jj + 1) i (by omega) (by omega) h0_192 (by omega)
        refine j_iload (pc := 311) C dL_law_311 13 rfl ?_
        refine j_iload (pc := 313) C dL_law_313 6 rfl ?_
        refine j_icmp_ge (pc := 315) C 501 dL_law_315 (by decide) ⟨by omega, by omega⟩ ⟨by omega, by omega⟩ (fun c_315 => absurd c_315 (by omega)) (fun c_315 => ?_)
        refine j_aload_n (pc := 318) C dL_law_318 2 rfl ?_
        refine j_iload (pc := 319) C dL_law_319 12 rfl ?_
        refine j_iload (pc := 321) C dL_law_321 13 rfl ?_
        refine J.perm (ws' := wS c1 c2 o la sa r q dy li so sp L K Dm S lo hi su db ++ (wG h c1 c2 K Dm L lo hi su db S dy li so sp tu ah N3 ++ (gR c2 q1 L.toNat r1 ++ (gB c1 r1 L.toNat L.toNat (gl (wz L lo hi su db S)) ++ (gR c2 q2 L.toNat r2 ++ (gB c1 r2 L.toNat L.toNat (gm (wz L lo hi su db S)) ++ ([]))))))) (perm_of_count (fun cnt h1_ h0_ => by simp only [wU, wS, wGS, h1_, h0_] <;> omega)) ?_
        refine j_callPI (pc := 323) C (As := [.int (zI i), .int (zI jj)]) (rest := []) (wr := wG h c1 c2 K Dm L lo hi su db S dy li so sp tu ah N3 ++ (gR c2 q1 L.toNat r1 ++ (gB c1 r1 L.toNat L.toNat (gl (wz L lo hi su db S)) ++ (gR c2 q2 L.toNat r2 ++ (gB c1 r2 L.toNat L.toNat (gm (wz L lo hi su db S)) ++ ([])))))) (kX1_added l D c1 c2 c3 o la sa r q dy li so sp L K Dm S lo hi su db i jj (by omega) (by omega) (by omega) (by omega)) (cwV 2 C.2.2.2.2.1 gL_law_X1_added rfl rfl rfl (by decide +kernel) ⟨Nat.le_of_ble_eq_true rfl, Nat.le_of_ble_eq_true rfl⟩) 0 (ci := 1) rfl rfl rfl dL_law_323 rfl rfl (Nat.le_of_ble_eq_true rfl) ⟨(by show _ ≤ 600172; omega), (by show _ ≤ 7300668; omega)⟩ ?_
        refine J.sub (ws' := wG h c1 c2 K Dm L lo hi su db S dy li so sp tu ah N3 ++ (gO o la sa dy li so sp ++ (gR c2 la L.toNat r ++ (gR c2 sa S.toNat q ++ (gB c1 r L.toNat 2 (fL K Dm) ++ (gB c1 q S.toNat 4 (fS lo hi su db) ++ (gR c2 q1 L.toNat r1 ++ (gB c1 r1 L.toNat L.toNat (gl (wz L lo hi su db S)) ++ (gR c2 q2 L.toNat r2 ++ (gB c1 r2 L.toNat L.toNat (gm (wz L lo hi su db S)) ++ ([]))))))))))) (rest := []) (perm_of_count (fun cnt h1_ h0_ => by simp only [wU, wS, wGS, h1_, h0_] <;> omega)) ?_
        refine j_istore (pc := 326) C (lv' := [(0, .ref b), (1, .ref (h 0)), (2, .ref o), (3, .int (zI tm)), (4, .int (zI x)), (5, .long d0), (7, .int (zI L)), (8, .int (zI (zs (fun j => (wz L lo hi su db S) j (j + 1) - -((wz L lo hi su db S) (j + 1) j)) 0 i + ((wz L lo hi su db S) i (i + 1) - -((wz L lo hi su db S) (i + 1) i))))), (9, .int (zI (min lw (Dm i)))), (10, .int (zI (max hg (Dm i)))), (11, .ref q1), (12, .ref q2), (13, .int (zI i)), (15, .int (zI jj)), (16, .int (zI (zs Dm i (jj + 1))))]) dL_law_326 (by decide) [1, 2, 3, 4, 5, 6, 7, 8, 9, 10, 11, 12, 13, 14, 0] rfl ?_
        refine j_aload (pc := 328) C dL_law_328 10 rfl ?_
        refine j_iload (pc := 330) C dL_law_330 12 rfl ?_
        refine j_aald (pc := 332) C _ 1 (g := r1) (At.r (At.r (At.r (At.r (At.r (At.r (At.l (k := 0) rfl))))))) rfl (by omega) (by omega) (by omega) dL_law_332 ?_
        refine j_iload (pc := 333) C dL_law_333 13 rfl ?_
        refine j_iald (pc := 335) C _ 0 (At.r (At.r (At.r (At.r (At.r (At.r (At.r (At.l (gB_at (by omega) (by omega)))))))))) rfl (by omega) (by omega) (by omega) dL_law_335 ?_
        refine j_iload (pc := 336) C dL_law_336 14 rfl ?_
        refine j_icmp_gt (pc := 338) C 354 dL_law_338 (by decide) ⟨by omega, by omega⟩ ⟨by omega, by omega⟩ (fun c_338 => absurd c_338 (by omega)) (fun c_338 => ?_)
        refine j_aload (pc := 341) C dL_law_341 11 rfl ?_
        refine j_iload (pc := 343) C dL_law_343 12 rfl ?_
        refine j_aald (pc := 345) C _ 1 (g := r2) (At.r (At.r (At.r (At.r (At.r (At.r (At.r (At.r (At.l (k := 0) rfl))))))))) rfl (by omega) (by omega) (by omega) dL_law_345 ?_
        refine j_iload (pc := 346) C dL_law_346 13 rfl ?_
        refine j_iald (pc := 348) C _ 0 (At.r (At.r (At.r (At.r (At.r (At.r (At.r (At.r (At.r (At.l (gB_at (by omega) (by omega)))))))))))) rfl (by omega) (by omega) (by omega) dL_law_348 ?_
        refine j_iload (pc := 349) C dL_law_349 14 rfl ?_
        refine j_icmp_ge (pc := 351) C 356 dL_law_351 (by decide) ⟨by omega, by omega⟩ ⟨by omega, by omega⟩ (fun c_351 => ?_) (fun c_351 => absurd c_351 (by omega))
        refine j_iload (pc := 356) C dL_law_356 12 rfl ?_
        refine j_istore (pc := 358) C (lv' := [(0, .ref b), (1, .ref (h 0)), (2, .ref o), (3, .int (zI tm)), (4, .int (zI x)), (5, .long d0), (7, .int (zI L)), (8, .int (zI (zs (fun j => (wz L lo hi su db S) j (j + 1) - -((wz L lo hi su db S) (j + 1) j)) 0 i + ((wz L lo hi su db S) i (i + 1) - -((wz L lo hi su db S) (i + 1) i))))), (9, .int (zI (min lw (Dm i)))), (10, .int (zI (max hg (Dm i)))), (11, .ref q1), (12, .ref q2), (13, .int (zI i)), (15, .int (zI jj)), (16, .int (zI (zs Dm i (jj + 1)))), (17, .int (zI i))]) dL_law_358 (by decide) [1, 2, 3, 4, 5, 6, 7, 8, 9, 10, 11, 12, 13, 14, 15, 0] rfl ?_
        refine J.pick (lv' := [(0, .ref b), (1, .ref (h 0)), (2, .ref o), (3, .int (zI tm)), (4, .int (zI x)), (5, .long d0), (7, .int (zI L)), (8, .int (zI (zs (fun j => (wz L lo hi su db S) j (j + 1) - -((wz L lo hi su db S) (j + 1) j)) 0 i + ((wz L lo hi su db S) i (i + 1) - -((wz L lo hi su db S) (i + 1) i))))), (9, .int (zI (min lw (Dm i)))), (10, .int (zI (max hg (Dm i)))), (11, .ref q1), (12, .ref q2), (13, .int (zI i)), (15, .int (zI jj)), (17, .int (zI i))]) [0, 1, 2, 3, 4, 5, 6, 7, 8, 9, 10, 11, 12, 13, 15] rfl ?_
        refine J.cast (ws' := wG h c1 c2 K Dm L lo hi su db S dy li so sp tu ah N3 ++ (gO o la sa dy li so sp ++ (gR c2 la L.toNat r ++ (gR c2 sa S.toNat q ++ (gB c1 r L.toNat 2 (fL K Dm) ++ (gB c1 q S.toNat 4 (fS lo hi su db) ++ (gR c2 q1 L.toNat r1 ++ (gB c1 r1 L.toNat L.toNat (gl (wz L lo hi su db S)) ++ (gR c2 q2 L.toNat r2 ++ (gB c1 r2 L.toNat L.toNat (gm (wz L lo hi su db S)) ++ ([]))))))))))) (lv' := [(0, .ref b), (1, .ref (h 0)), (2, .ref o), (3, .int (zI tm)), (4, .int (zI x)), (5, .long d0), (7, .int (zI L)), (8, .int (zI (zs (fun j => (wz L lo hi su db S) j (j + 1) - -((wz L lo hi su db S) (j + 1) j)) 0 i + ((wz L lo hi su db S) i (i + 1) - -((wz L lo hi su db S) (i + 1) i))))), (9, .int (zI (min lw (Dm i)))), (10, .int (zI (max hg (Dm i)))), (11, .ref q1), (12, .ref q2), (13, .int (zI i)), (15, .int (zI jj)), (17, .int (zI i))]) ?_ (by rfl) (by rfl) rfl
        refine J.widen (k := k0) (n := s0) (by omega) (by omega) ?_
        refine j_loop (X := Unit) (fun (k : Int) x9 => wG h c1 c2 K Dm L lo hi su db S dy li so sp tu ah N3 ++ (gO o la sa dy li so sp ++ (gR c2 la L.toNat r ++ (gR c2 sa S.toNat q ++ (gB c1 r L.toNat 2 (fL K Dm) ++ (gB c1 q S.toNat 4 (fS lo hi su db) ++ (gR c2 q1 L.toNat r1 ++ (gB c1 r1 L.toNat L.toNat (gl (wz L lo hi su db S)) ++ (gR c2 q2 L.toNat r2 ++ (gB c1 r2 L.toNat L.toNat (gm (wz L lo hi su db S)) ++ ([]))))))))))) (fun (k : Int) x9 => [(0, .ref b), (1, .ref (h 0)), (2, .ref o), (3, .int (zI tm)), (4, .int (zI x)), (5, .long d0), (7, .int (zI L)), (8, .int (zI (zs (fun j => (wz L lo hi su db S) j (j + 1) - -((wz L lo hi su db S) (j + 1) j)) 0 i + ((wz L lo hi su db S) i (i + 1) - -((wz L lo hi su db S) (i + 1) i))))), (9, .int (zI (min lw (Dm i)))), (10, .int (zI (max hg (Dm i)))), (11, .ref q1), (12, .ref q2), (13, .int (zI i)), (15, .int (zI jj)), (17, .int (zI k))]) (fun (k : Int) x9 => True) (fun (k : Int) => k0) (fun (k : Int) => s0) i jj (by omega) ?_ ?_ () trivial
        · intro k x9 h0_360 h1_360 hI_360 hk_360
          try dsimp only at hI_360 hk_360 ⊢
          have gka := gl_at (W := (wz L lo hi su db S)) (p := i) (t := k) h0_360
          have gkb := gm_at (W := (wz L lo hi su db S)) (p := i) (t := k) h0_360
          have gja := gl_at (W := (wz L lo hi su db S)) (p := k + 1) (t := jj) (by omega)
          have gjb := gm_at (W := (wz L lo hi su db S)) (p := k + 1) (t := jj) (by omega)
          have b3 := hB i (k + 1) h0_192 (by omega) (by omega) (by omega)
          have b4 := hB (k + 1) i (by omega) (by omega) h0_192 (by omega)
          have b5 := hB (k + 1) (jj + 1) (by omega) (by omega) (by omega) (by omega)
          have b6 := hB (jj + 1) (k + 1) (by omega) (by omega) (by omega) (by omega)
          have t1_ := hT (jj + 1) i (k + 1) (by omega) (by omega) h0_192 (by omega) (by omega) (by omega)
          have t2_ := hT i (jj + 1) (k + 1) h0_192 (by omega) (by omega) (by omega) (by omega) (by omega)
          have t3_ := hT (k + 1) i (jj + 1) (by omega) (by omega) h0_192 (by omega) (by omega) (by omega)
          have t4_ := hT i (k + 1) (jj + 1) h0_192 (by omega) (by omega) (by omega) (by omega) (by omega)
          refine j_iload (pc := 360) C dL_law_360 14 rfl ?_
          refine j_iload (pc := 362) C dL_law_362 13 rfl ?_
          refine j_icmp_ge (pc := 364) C 495 dL_law_364 (by decide) ⟨by omega, by omega⟩ ⟨by omega, by omega⟩ (fun c_364 => absurd c_364 (by omega)) (fun c_364 => ?_)
          refine j_aload (pc := 367) C dL_law_367 10 rfl ?_
          refine j_iload (pc := 369) C dL_law_369 12 rfl ?_
          refine j_aald (pc := 371) C _ 1 (g := r1) (At.r (At.r (At.r (At.r (At.r (At.r (At.l (k := 0) rfl))))))) rfl (by omega) (by omega) (by omega) dL_law_371 ?_
          refine j_iload (pc := 372) C dL_law_372 13 rfl ?_
          refine j_iald (pc := 374) C _ 0 (At.r (At.r (At.r (At.r (At.r (At.r (At.r (At.l (gB_at (by omega) (by omega)))))))))) rfl (by omega) (by omega) (by omega) dL_law_374 ?_
          refine j_aload (pc := 375) C dL_law_375 10 rfl ?_
          refine j_iload (pc := 377) C dL_law_377 12 rfl ?_
          refine j_aald (pc := 379) C _ 1 (g := r1) (At.r (At.r (At.r (At.r (At.r (At.r (At.l (k := 0) rfl))))))) rfl (by omega) (by omega) (by omega) dL_law_379 ?_
          refine j_iload (pc := 380) C dL_law_380 14 rfl ?_
          refine j_iald (pc := 382) C _ 0 (At.r (At.r (At.r (At.r (At.r (At.r (At.r (At.l (gB_at (by omega) (by omega)))))))))) rfl (by omega) (by omega) (by omega) dL_law_382 ?_
          refine j_aload (pc := 383) C dL_law_383 10 rfl ?_
          refine j_iload (pc := 385) C dL_law_385 14 rfl ?_
          refine j_iconst (pc := 387) C dL_law_387 ?_
          refine j_iadd (pc := 388) C dL_law_388 ?_
          refine j_aald (pc := 389) C _ 1 (g := r1) (At.r (At.r (At.r (At.r (At.r (At.r (At.l (k := 0) rfl))))))) rfl (by omega) (by omega) (by omega) dL_law_389 ?_
          refine j_iload (pc := 390) C dL_law_390 13 rfl ?_
          refine j_iald (pc := 392) C _ 0 (At.r (At.r (At.r (At.r (At.r (At.r (At.r (At.l (gB_at (by omega) (by omega)))))))))) rfl (by omega) (by omega) (by omega) dL_law_392 ?_
          refine j_iadd (pc := 393) C dL_law_393 ?_
          refine j_icmp_lt (pc := 394) C 487 dL_law_394 (by decide) ⟨by omega, by omega⟩ ⟨by omega, by omega⟩ (fun c_394 => absurd c_394 (by omega)) (fun c_394 => ?_)
          refine j_aload (pc := 397) C dL_law_397 11 rfl ?_
          refine j_iload (pc := 399) C dL_law_399 12 rfl ?_
          refine j_aald (pc := 401) C _ 1 (g := r2) (At.r (At.r (At.r (At.r (At.r (At.r (At.r (At.r (At.l (k := 0) rfl))))))))) rfl (by omega) (by omega) (by omega) dL_law_401 ?_
          refine j_iload (pc := 402) C dL_law_402 13 rfl ?_
          refine j_iald (pc := 404) C _ 0 (At.r (At.r (At.r (At.r (At.r (At.r (At.r (At.r (At.r (At.l (gB_at (by omega) (by omega)))))))))))) rfl (by omega) (by omega) (by omega) dL_law_404 ?_
          refine j_aload (pc := 405) C dL_law_405 11 rfl ?_
          refine j_iload (pc := 407) C dL_law_407 12 rfl ?_
          refine j_aald (pc := 409) C _ 1 (g := r2) (At.r (At.r (At.r (At.r (At.r (At.r (At.r (At.r (At.l (k := 0) rfl))))))))) rfl (by omega) (by omega) (by omega) dL_law_409 ?_
          refine j_iload (pc := 410) C dL_law_410 14 rfl ?_
          refine j_iald (pc := 412) C _ 0 (At.r (At.r (At.r (At.r (At.r (At.r (At.r (At.r (At.r (At.l (gB_at (by omega) (by omega)))))))))))) rfl (by omega) (by omega) (by omega) dL_law_412 ?_
          refine j_aload (pc := 413) C dL_law_413 11 rfl ?_
          refine j_iload (pc := 415) C dL_law_415 14 rfl ?_
          refine j_iconst (pc := 417) C dL_law_417 ?_
          refine j_iadd (pc := 418) C dL_law_418 ?_
          refine j_aald (pc := 419) C _ 1 (g := r2) (At.r (At.r (At.r (At.r (At.r (At.r (At.r (At.r (At.l (k := 0) rfl))))))))) rfl (by omega) (by omega) (by omega) dL_law_419 ?_
          refine j_iload (pc := 420) C dL_law_420 13 rfl ?_
          refine j_iald (pc := 422) C _ 0 (At.r (At.r (At.r (At.r (At.r (At.r (At.r (At.r (At.r (At.l (gB_at (by omega) (by omega)))))))))))) rfl (by omega) (by omega) (by omega) dL_law_422 ?_
          refine j_iadd (pc := 423) C dL_law_423 ?_
          refine j_icmp_gt (pc := 424) C 487 dL_law_424 (by decide) ⟨by omega, by omega⟩ ⟨by omega, by omega⟩ (fun c_424 => absurd c_424 (by omega)) (fun c_424 => ?_)
          refine j_aload (pc := 427) C dL_law_427 10 rfl ?_
          refine j_iload (pc := 429) C dL_law_429 12 rfl ?_
          refine j_aald (pc := 431) C _ 1 (g := r1) (At.r (At.r (At.r (At.r (At.r (At.r (At.l (k := 0) rfl))))))) rfl (by omega) (by omega) (by omega) dL_law_431 ?_
          refine j_iload (pc := 432) C dL_law_432 14 rfl ?_
          refine j_iald (pc := 434) C _ 0 (At.r (At.r (At.r (At.r (At.r (At.r (At.r (At.l (gB_at (by omega) (by omega)))))))))) rfl (by omega) (by omega) (by omega) dL_law_434 ?_
          refine j_aload (pc := 435) C dL_law_435 10 rfl ?_
          refine j_iload (pc := 437) C dL_law_437 12 rfl ?_
          refine j_aald (pc := 439) C _ 1 (g := r1) (At.r (At.r (At.r (At.r (At.r (At.r (At.l (k := 0) rfl))))))) rfl (by omega) (by omega) (by omega) dL_law_439 ?_
          refine j_iload (pc := 440) C dL_law_440 13 rfl ?_
          refine j_iald (pc := 442) C _ 0 (At.r (At.r (At.r (At.r (At.r (At.r (At.r (At.l (gB_at (by omega) (by omega)))))))))) rfl (by omega) (by omega) (by omega) dL_law_442 ?_
          refine j_aload (pc := 443) C dL_law_443 11 rfl ?_
          refine j_iload (pc := 445) C dL_law_445 14 rfl ?_
          refine j_iconst (pc := 447) C dL_law_447 ?_
          refine j_iadd (pc := 448) C dL_law_448 ?_
          refine j_aald (pc := 449) C _ 1 (g := r2) (At.r (At.r (At.r (At.r (At.r (At.r (At.r (At.r (At.l (k := 0) rfl))))))))) rfl (by omega) (by omega) (by omega) dL_law_449 ?_
          refine j_iload (pc := 450) C dL_law_450 13 rfl ?_
          refine j_iald (pc := 452) C _ 0 (At.r (At.r (At.r (At.r (At.r (At.r (At.r (At.r (At.r (At.l (gB_at (by omega) (by omega)))))))))))) rfl (by omega) (by omega) (by omega) dL_law_452 ?_
          refine j_isub (pc := 453) C dL_law_453 ?_
          refine j_icmp_lt (pc := 454) C 487 dL_law_454 (by decide) ⟨by omega, by omega⟩ ⟨by omega, by omega⟩ (fun c_454 => absurd c_454 (by omega)) (fun c_454 => ?_)
          refine j_aload (pc := 457) C dL_law_457 11 rfl ?_
          refine j_iload (pc := 459) C dL_law_459 12 rfl ?_
          refine j_aald (pc := 461) C _ 1 (g := r2) (At.r (At.r (At.r (At.r (At.r (At.r (At.r (At.r (At.l (k := 0) rfl))))))))) rfl (by omega) (by omega) (by omega) dL_law_461 ?_
          refine j_iload (pc := 462) C dL_law_462 14 rfl ?_
          refine j_iald (pc := 464) C _ 0 (At.r (At.r (At.r (At.r (At.r (At.r (At.r (At.r (At.r (At.l (gB_at (by omega) (by omega)))))))))))) rfl (by omega) (by omega) (by omega) dL_law_464 ?_
          refine j_aload (pc := 465) C dL_law_465 11 rfl ?_
          refine j_iload (pc := 467) C dL_law_467 12 rfl ?_
          refine j_aald (pc := 469) C _ 1 (g := r2) (At.r (At.r (At.r (At.r (At.r (At.r (At.r (At.r (At.l (k := 0) rfl))))))))) rfl (by omega) (by omega) (by omega) dL_law_469 ?_
          refine j_iload (pc := 470) C dL_law_470 13 rfl ?_
          refine j_iald (pc := 472) C _ 0 (At.r (At.r (At.r (At.r (At.r (At.r (At.r (At.r (At.r (At.l (gB_at (by omega) (by omega)))))))))))) rfl (by omega) (by omega) (by omega) dL_law_472 ?_
          refine j_aload (pc := 473) C dL_law_473 10 rfl ?_
          refine j_iload (pc := 475) C dL_law_475 14 rfl ?_
          refine j_iconst (pc := 477) C dL_law_477 ?_
          refine j_iadd (pc := 478) C dL_law_478 ?_
          refine j_aald (pc := 479) C _ 1 (g := r1) (At.r (At.r (At.r (At.r (At.r (At.r (At.l (k := 0) rfl))))))) rfl (by omega) (by omega) (by omega) dL_law_479 ?_
          refine j_iload (pc := 480) C dL_law_480 13 rfl ?_
          refine j_iald (pc := 482) C _ 0 (At.r (At.r (At.r (At.r (At.r (At.r (At.r (At.l (gB_at (by omega) (by omega)))))))))) rfl (by omega) (by omega) (by omega) dL_law_482 ?_
          refine j_isub (pc := 483) C dL_law_483 ?_
          refine j_icmp_le (pc := 484) C 489 dL_law_484 (by decide) ⟨by omega, by omega⟩ ⟨by omega, by omega⟩ (fun c_484 => ?_) (fun c_484 => absurd c_484 (by omega))
          refine j_iinc (pc := 489) C (x := k) (lv' := [(0, .ref b), (1, .ref (h 0)), (2, .ref o), (3, .int (zI tm)), (4, .int (zI x)), (5, .long d0), (7, .int (zI L)), (8, .int (zI (zs (fun j => (wz L lo hi su db S) j (j + 1) - -((wz L lo hi su db S) (j + 1) j)) 0 i + ((wz L lo hi su db S) i (i + 1) - -((wz L lo hi su db S) (i + 1) i))))), (9, .int (zI (min lw (Dm i)))), (10, .int (zI (max hg (Dm i)))), (11, .ref q1), (12, .ref q2), (13, .int (zI i)), (15, .int (zI jj)), (17, .int (zI (k + 1)))]) dL_law_489 14 rfl (by decide) [1, 2, 3, 4, 5, 6, 7, 8, 9, 10, 11, 12, 13, 14, 0] rfl ?_
          refine j_goto (pc := 492) C 360 dL_law_492 (by decide) ?_
          exact J.widen (by omega) (by omega) (J.cast (hk_360 () trivial) (by rfl) (by rfl) rfl)
        · intro x9 hI_360
          try dsimp only at hI_360 ⊢
          refine j_iload (pc := 360) C dL_law_360 14 rfl ?_
          refine j_iload (pc := 362) C dL_law_362 13 rfl ?_
          refine j_icmp_ge (pc := 364) C 495 dL_law_364 (by decide) ⟨by omega, by omega⟩ ⟨by omega, by omega⟩ (fun c_364 => ?_) (fun c_364 => absurd c_364 (by omega))
          refine j_iinc (pc := 495) C (x := jj) (lv' := [(0, .ref b), (1, .ref (h 0)), (2, .ref o), (3, .int (zI tm)), (4, .int (zI x)), (5, .long d0), (7, .int (zI L)), (8, .int (zI (zs (fun j => (wz L lo hi su db S) j (j + 1) - -((wz L lo hi su db S) (j + 1) j)) 0 i + ((wz L lo hi su db S) i (i + 1) - -((wz L lo hi su db S) (i + 1) i))))), (9, .int (zI (min lw (Dm i)))), (10, .int (zI (max hg (Dm i)))), (11, .ref q1), (12, .ref q2), (13, .int (zI i)), (15, .int (zI (jj + 1))), (17, .int (zI jj))]) dL_law_495 13 rfl (by decide) [1, 2, 3, 4, 5, 6, 7, 8, 9, 10, 11, 12, 13, 0, 14] rfl ?_
          refine j_goto (pc := 498) C 311 dL_law_498 (by decide) ?_
          refine J.sub (ws' := wG h c1 c2 K Dm L lo hi su db S dy li so sp tu ah N3 ++ (gR c2 q1 L.toNat r1 ++ (gB c1 r1 L.toNat L.toNat (gl (wz L lo hi su db S)) ++ (gR c2 q2 L.toNat r2 ++ (gB c1 r2 L.toNat L.toNat (gm (wz L lo hi su db S)) ++ (gO o la sa dy li so sp ++ (gR c2 la L.toNat r ++ (gR c2 sa S.toNat q ++ (gB c1 r L.toNat 2 (fL K Dm) ++ (gB c1 q S.toNat 4 (fS lo hi su db) ++ ([]))))))))))) (rest := []) (perm_of_count (fun cnt h1_ h0_ => by simp only [wU, wS, wGS, h1_, h0_] <;> omega)) ?_
          refine J.pick (lv' := [(0, .ref b), (1, .ref (h 0)), (2, .ref o), (3, .int (zI tm)), (4, .int (zI x)), (5, .long d0), (7, .int (zI L)), (8, .int (zI (zs (fun j => (wz L lo hi su db S) j (j + 1) - -((wz L lo hi su db S) (j + 1) j)) 0 i + ((wz L lo hi su db S) i (i + 1) - -((wz L lo hi su db S) (i + 1) i))))), (9, .int (zI (min lw (Dm i)))), (10, .int (zI (max hg (Dm i)))), (11, .ref q1), (12, .ref q2), (13, .int (zI i)), (15, .int (zI (jj + 1)))]) [0, 1, 2, 3, 4, 5, 6, 7, 8, 9, 10, 11, 12, 13] rfl ?_
          exact J.widen (by omega) (by omega) (J.cast (hk_311 () trivial) (by rfl) (by rfl) rfl)
      · intro x9 hI_311
        try dsimp only at hI_311 ⊢
        refine j_iload (pc := 311) C dL_law_311 13 rfl ?_
        refine j_iload (pc := 313) C dL_law_313 6 rfl ?_
        refine j_icmp_ge (pc := 315) C 501 dL_law_315 (by decide) ⟨by omega, by omega⟩ ⟨by omega, by omega⟩ (fun c_315 => ?_) (fun c_315 => absurd c_315 (by omega))
        refine j_iinc (pc := 501) C (x := i) (lv' := [(0, .ref b), (1, .ref (h 0)), (2, .ref o), (3, .int (zI tm)), (4, .int (zI x)), (5, .long d0), (7, .int (zI L)), (8, .int (zI (zs (fun j => (wz L lo hi su db S) j (j + 1) - -((wz L lo hi su db S) (j + 1) j)) 0 i + ((wz L lo hi su db S) i (i + 1) - -((wz L lo hi su db S) (i + 1) i))))), (9, .int (zI (min lw (Dm i)))), (10, .int (zI (max hg (Dm i)))), (11, .ref q1), (12, .ref q2), (13, .int (zI (i + 1))), (15, .int (zI L))]) dL_law_501 12 rfl (by decide) [1, 2, 3, 4, 5, 6, 7, 8, 9, 10, 11, 12, 0, 13] rfl ?_
        refine j_goto (pc := 504) C 192 dL_law_504 (by decide) ?_
        refine J.pick (lv' := [(0, .ref b), (1, .ref (h 0)), (2, .ref o), (3, .int (zI tm)), (4, .int (zI x)), (5, .long d0), (7, .int (zI L)), (8, .int (zI (zs (fun j => (wz L lo hi su db S) j (j + 1) - -((wz L lo hi su db S) (j + 1) j)) 0 i + ((wz L lo hi su db S) i (i + 1) - -((wz L lo hi su db S) (i + 1) i))))), (9, .int (zI (min lw (Dm i)))), (10, .int (zI (max hg (Dm i)))), (11, .ref q1), (12, .ref q2), (13, .int (zI (i + 1)))]) [0, 1, 2, 3, 4, 5, 6, 7, 8, 9, 10, 11, 12] rfl ?_
        exact J.widen (by omega) (by omega) (J.cast (hk_192 ⟨N3, min lw (Dm i), max hg (Dm i)⟩ ⟨by show 0 ≤ min lw (Dm i) ∧ min lw (Dm i) ≤ 40; omega, by show 0 ≤ max hg (Dm i) ∧ max hg (Dm i) ≤ 40; omega, fun j j0 j1 => if q : j = i then (by subst q; show min lw (Dm j) ≤ Dm j ∧ Dm j ≤ max hg (Dm j); omega) else (by have q9 := hI_192.2.2 j j0 (by omega); show min lw (Dm i) ≤ Dm j ∧ Dm j ≤ max hg (Dm i); omega)⟩) (by rfl) (by rw [zs_up _ 0 i h0_192]) rfl)
    · intro kj_307
      try dsimp only at kj_307 ⊢
      refine j_aload_n (pc := 285) C dL_law_285 1 rfl ?_
      refine j_iload (pc := 286) C dL_law_286 12 rfl ?_
      refine j_callPI (pc := 288) C (As := [.int (zI i)]) (rest := []) (wr := gR c2 q1 L.toNat r1 ++ (gB c1 r1 L.toNat L.toNat (gl (wz L lo hi su db S)) ++ (gR c2 q2 L.toNat r2 ++ (gB c1 r2 L.toNat L.toNat (gm (wz L lo hi su db S)) ++ (gO o la sa dy li so sp ++ (gR c2 la L.toNat r ++ (gR c2 sa S.toNat q ++ (gB c1 r L.toNat 2 (fL K Dm) ++ (gB c1 q S.toNat 4 (fS lo hi su db) ++ ([])))))))))) (kX0_isKnown l D h c1 c2 c3 K Dm L lo hi su db S dy li so sp tu ah N6_ i hok (by omega) (by omega)) (cwV 1 C.2.2.2.2.1 gL_law_X0_isKnown rfl rfl rfl (by decide +kernel) ⟨Nat.le_of_ble_eq_true rfl, Nat.le_of_ble_eq_true rfl⟩) 0 (ci := 0) rfl rfl rfl dL_law_288 rfl rfl (Nat.le_of_ble_eq_true rfl) ⟨(by show _ ≤ 600172; omega), (by show _ ≤ 7300668; omega)⟩ ?_
      have eN7_ := wz_eq hok N6_
      generalize wg L lo hi su db N6_ S = N7_ at eN7_ ⊢
      refine j_if_eq (pc := 291) C 307 dL_law_291 (by decide) ⟨by omega, by omega⟩ (fun c_291 => ?_) (fun c_291 => ?_)
      · skip
        exact J.widen (by omega) (by omega) (J.cast (kj_307 N7_ trivial) (by rfl) (by rfl) (by rfl))
      · skip
        have k291 : -(N7_ (i + 1) i) = N7_ i (i + 1) := by
          apply Decidable.byContradiction
          intro q9
          rw [if_neg q9] at c_291
          exact c_291 rfl
        have f8 := eN7_ (i + 1) i (by omega) (by omega) h0_192 (by omega)
        have f7 := eN7_ i (i + 1) h0_192 (by omega) (by omega) (by omega)
        refine j_aload_n (pc := 294) C dL_law_294 1 rfl ?_
        refine j_iload (pc := 295) C dL_law_295 12 rfl ?_
        refine j_callPI (pc := 297) C (As := [.int (zI i)]) (rest := []) (wr := gR c2 q1 L.toNat r1 ++ (gB c1 r1 L.toNat L.toNat (gl (wz L lo hi su db S)) ++ (gR c2 q2 L.toNat r2 ++ (gB c1 r2 L.toNat L.toNat (gm (wz L lo hi su db S)) ++ (gO o la sa dy li so sp ++ (gR c2 la L.toNat r ++ (gR c2 sa S.toNat q ++ (gB c1 r L.toNat 2 (fL K Dm) ++ (gB c1 q S.toNat 4 (fS lo hi su db) ++ ([])))))))))) (kX0_leastOf l D h c1 c2 c3 K Dm L lo hi su db S dy li so sp tu ah N7_ i hok (by omega) (by omega)) (cwV 1 C.2.2.2.2.1 gL_law_X0_leastOf rfl rfl rfl (by decide +kernel) ⟨Nat.le_of_ble_eq_true rfl, Nat.le_of_ble_eq_true rfl⟩) 0 (ci := 0) rfl rfl rfl dL_law_297 rfl rfl (Nat.le_of_ble_eq_true rfl) ⟨(by show _ ≤ 600172; omega), (by show _ ≤ 7300668; omega)⟩ ?_
        have eN8_ := wz_eq hok N7_
        generalize wg L lo hi su db N7_ S = N8_ at eN8_ ⊢
        refine j_iload (pc := 300) C dL_law_300 13 rfl ?_
        have f9 := eN8_ (i + 1) i (by omega) (by omega) h0_192 (by omega)
        refine j_icmp_eq (pc := 302) C 307 dL_law_302 (by decide) ⟨by omega, by omega⟩ ⟨by omega, by omega⟩ (fun c_302 => ?_) (fun c_302 => absurd c_302 (by omega))
        exact J.widen (by omega) (by omega) (J.cast (kj_307 N8_ trivial) (by rfl) (by rfl) (by rfl))
  · intro x9 hI_192
    obtain ⟨N, lw, hg⟩ := x9
    try dsimp only at hI_192 ⊢
    refine j_iload (pc := 192) C dL_law_192 12 rfl ?_
    refine j_iload (pc := 194) C dL_law_194 6 rfl ?_
    refine j_icmp_ge (pc := 196) C 507 dL_law_196 (by decide) ⟨by omega, by omega⟩ ⟨by omega, by omega⟩ (fun c_196 => ?_) (fun c_196 => absurd c_196 (by omega))
    refine J.cast (ws' := wG h c1 c2 K Dm L lo hi su db S dy li so sp tu ah N ++ (gR c2 q1 L.toNat r1 ++ (gB c1 r1 L.toNat L.toNat (gl (wz L lo hi su db S)) ++ (gR c2 q2 L.toNat r2 ++ (gB c1 r2 L.toNat L.toNat (gm (wz L lo hi su db S)) ++ (gO o la sa dy li so sp ++ (gR c2 la L.toNat r ++ (gR c2 sa S.toNat q ++ (gB c1 r L.toNat 2 (fL K Dm) ++ (gB c1 q S.toNat 4 (fS lo hi su db) ++ ([]))))))))))) (lv' := [(0, .ref b), (1, .ref (h 0)), (2, .ref o), (3, .int (zI tm)), (4, .int (zI x)), (5, .long d0), (7, .int (zI L)), (8, .int (zI (dNow (wz L lo hi su db S) L))), (9, .int (zI lw)), (10, .int (zI hg)), (11, .ref q1), (12, .ref q2), (13, .int (zI L))]) (st' := []) ?_ (by rfl) (by rfl) (by rfl)
    refine J.pick (lv' := [(0, .ref b), (1, .ref (h 0)), (2, .ref o), (3, .int (zI tm)), (4, .int (zI x)), (5, .long d0), (7, .int (zI L)), (8, .int (zI (dNow (wz L lo hi su db S) L))), (9, .int (zI lw)), (10, .int (zI hg)), (11, .ref q1), (12, .ref q2)]) [0, 1, 2, 3, 4, 5, 6, 7, 8, 9, 10, 11] rfl ?_
    exact J.widen (by omega) (by omega) (J.cast (k N lw hg hI_192) rfl rfl rfl)
end LW
