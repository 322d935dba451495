/-! ===== the law's cases, 1 ===== -/
set_option maxHeartbeats 4000000 in
set_option maxRecDepth 100000 in
theorem lw_fill {p : Program} {l : Launch} {e : Env} {s : State} {m : MethodId} {args : Array Value} {below : List Frame} {meth : Method} {c : Code} {D : va_G} {A : Nat → Prop} {cells slots : Nat} {Q : State → Prop} {c1 c2 c3 : ClassId} {h k : Nat → Nat} {o9 sb n : Nat} {xs : Nat → Int32} (C : GC p s m args meth c cL_law 9 RL wsL_law D (tyS c1 c2 c3) A) (htr : l.stackTraces = false) (hx : xF A s s.heap) (hX : va_X sb n xs s s.heap) (hbl : sb < s.heap.size) (hbA : ¬ A sb) {i : Int} (i0 : 0 ≤ i) (i1 : i + 2 < n) (hn : n ≤ 1536) (hcl : cells + 1 ≤ room_1.cells) (hsl : slots + 9 ≤ room_1.slots) {t : Int} (t0 : 0 ≤ t) (t1 : t < 512) {K Dm : Int → Int} {L : Int} {lo hi su db : Int → Int} {S dy li so sp : Int} {tu ah : Int → Int} {M : Int → Int → Int} {f9 : Nat → Int64} {th : Int} {K' Dm' lo' hi' su' db' : Int → Int} {X : Int → Int → Int} {ke se : Int → Int} (r : Rel t K Dm L lo hi su db S li K' Dm' lo' hi' su' db') (kont : ∀ w, LI (t + 1) c1 c2 c3 h k o9 w → J p l e room_1 s m args below meth c 9 D A (cells + 1) (slots + 9) Q w [(0, .ref sb), (1, .ref (h 0)), (2, .ref (k 0)), (3, .ref o9), (4, .int (zI i))] 1713 []) : J p l e room_1 s m args below meth c 9 D A cells slots Q ((wG h c1 c2 K Dm L lo hi su db S dy li so sp tu ah M ++ [(o9, .inl (c3, 1, .inr (.inl f9)))]) ++ wN k c1 th L K' Dm' S lo' hi' su' db' dy li so sp X ke se) [(0, .ref sb), (1, .ref (h 0)), (2, .ref (k 0)), (3, .ref o9), (4, .int (zI i))] 196 [] := by
  obtain ⟨⟨⟨hL0, hL⟩, ⟨hS0, hS⟩, hf, hs⟩, hd, hk, ⟨l0, l1⟩, eK, eD, e1, e2, e3, e4⟩ := id r
  obtain ⟨a, ea⟩ : ∃ a, (xs (i + 1).toNat).toInt = a := ⟨_, rfl⟩
  obtain ⟨b, eb⟩ : ∃ b, (xs (i + 2).toNat).toInt = b := ⟨_, rfl⟩
  have ha : zR a := by rw [← ea]; exact zR_of _
  have hb : zR b := by rw [← eb]; exact zR_of _
  obtain ⟨ha1, ha2⟩ := id ha
  obtain ⟨hb1, hb2⟩ := id hb
  by_cases hq0 : 0 ≤ a ∧ a ≤ 4 ∧ 0 ≤ b ∧ b ≤ 40
  case neg =>
    refine j_aload_n (pc := 196) C dL_law_196 1 rfl ?_
    refine j_aload_n (pc := 197) C dL_law_197 0 rfl ?_
    refine j_iload (pc := 198) C dL_law_198 4 rfl ?_
    refine j_iconst (pc := 200) C dL_law_200 ?_
    refine j_iadd (pc := 201) C dL_law_201 ?_
    refine j_sld (pc := 202) C hX hbl hbA hn (by omega) (by omega) ea dL_law_202 ?_
    refine j_aload_n (pc := 203) C dL_law_203 0 rfl ?_
    refine j_iload (pc := 204) C dL_law_204 4 rfl ?_
    refine j_iconst (pc := 206) C dL_law_206 ?_
    refine j_iadd (pc := 207) C dL_law_207 ?_
    refine j_sld (pc := 208) C hX hbl hbA hn (by omega) (by omega) eb dL_law_208 ?_
    refine j_aload_n (pc := 209) C dL_law_209 3 rfl ?_
    refine j_callSIX (pc := 210) C htr hx (As := [.ref (h 0), .int (zI a), .int (zI b), .ref o9]) (rest := []) rfl (kL_fill_x1 l D h c1 c2 c3 K Dm L lo hi su db S dy li so sp tu ah M o9 f9 a b ha hb (by omega)) (vx_cwSW 4 C.2.2.2.2.1 gL_law_L_fill rfl rfl rfl (by decide +kernel) ⟨Nat.le_of_ble_eq_true rfl, Nat.le_of_ble_eq_true rfl⟩) dL_law_210 rfl rfl (Nat.le_of_ble_eq_true rfl) ⟨by omega, by omega⟩ ?_
    refine j_istore (pc := 213) C dL_law_213 (by decide) [1, 2, 3, 4, 5, 0] rfl ?_
    refine j_aload_n (pc := 215) C dL_law_215 2 rfl ?_
    refine j_aload_n (pc := 216) C dL_law_216 0 rfl ?_
    refine j_iload (pc := 217) C dL_law_217 4 rfl ?_
    refine j_iconst (pc := 219) C dL_law_219 ?_
    refine j_iadd (pc := 220) C dL_law_220 ?_
    refine j_sld (pc := 221) C hX hbl hbA hn (by omega) (by omega) ea dL_law_221 ?_
    refine j_aload_n (pc := 222) C dL_law_222 0 rfl ?_
    refine j_iload (pc := 223) C dL_law_223 4 rfl ?_
    refine j_iconst (pc := 225) C dL_law_225 ?_
    refine j_iadd (pc := 226) C dL_law_226 ?_
    refine j_sld (pc := 227) C hX hbl hbA hn (by omega) (by omega) eb dL_law_227 ?_
    refine J.swap ?_
    refine j_callFI (pc := 228) C (As := [.int (zI a), .int (zI b)]) (rest := []) (kX1_fill_no1 l D k c1 c2 c3 th L K' Dm' S lo' hi' su' db' dy li so sp X ke se a b ha hb (by omega)) [0, 1, 2] rfl (cwV 2 C.2.2.2.2.1 gL_law_X1_fill rfl rfl rfl (by decide +kernel) ⟨Nat.le_of_ble_eq_true rfl, Nat.le_of_ble_eq_true rfl⟩) 0 (ci := 1) rfl rfl rfl dL_law_228 rfl rfl (Nat.le_of_ble_eq_true rfl) ⟨by omega, by omega⟩ ?_
    refine j_istore (pc := 231) C dL_law_231 (by decide) [1, 2, 3, 4, 5, 6, 0] rfl ?_
    refine j_aload_n (pc := 233) C dL_law_233 2 rfl ?_
    refine j_callFI (pc := 234) C (As := []) (rest := []) (kX1_thrown l D k c1 c2 c3 _ _ _ _ _ _ _ _ _ _ _ _ _ _ _ _) [0, 1, 2] rfl (cwV 0 C.2.2.2.2.1 gL_law_X1_thrown rfl rfl rfl (by decide +kernel) ⟨Nat.le_of_ble_eq_true rfl, Nat.le_of_ble_eq_true rfl⟩) 0 (ci := 1) rfl rfl rfl dL_law_234 rfl rfl (Nat.le_of_ble_eq_true rfl) ⟨by omega, by omega⟩ ?_
    refine j_iload (pc := 237) C dL_law_237 5 rfl ?_
    refine j_icmp_eq (pc := 239) C 244 (a := 1) (b := 1) dL_law_239 (by decide) ⟨by decide, by decide⟩ ⟨by decide, by decide⟩ (fun _ => ?_) (fun q => absurd rfl q)
    refine j_iload (pc := 244) C dL_law_244 5 rfl ?_
    refine j_if_ne (pc := 246) C 261 dL_law_246 (by decide) ⟨by decide, by decide⟩ (fun _ => ?_) (fun q => absurd q (by decide))
    refine j_goto (pc := 261) C 1713 dL_law_261 (by decide) ?_
    refine J.swap ?_
    refine J.pick [0, 1, 2, 3, 4] rfl ?_
    refine J.widen (k := cells + 1) (n := slots + 9) (by omega) (by omega) (kont _ ?_)
    exact ⟨_, _, _, _, _, _, _, _, _, _, _, _, _, _, _, _, _, _, _, _, _, _, _, _, _, _, rfl, r.up⟩
  by_cases hq1 : L < 12
  case neg =>
    refine j_aload_n (pc := 196) C dL_law_196 1 rfl ?_
    refine j_aload_n (pc := 197) C dL_law_197 0 rfl ?_
    refine j_iload (pc := 198) C dL_law_198 4 rfl ?_
    refine j_iconst (pc := 200) C dL_law_200 ?_
    refine j_iadd (pc := 201) C dL_law_201 ?_
    refine j_sld (pc := 202) C hX hbl hbA hn (by omega) (by omega) ea dL_law_202 ?_
    refine j_aload_n (pc := 203) C dL_law_203 0 rfl ?_
    refine j_iload (pc := 204) C dL_law_204 4 rfl ?_
    refine j_iconst (pc := 206) C dL_law_206 ?_
    refine j_iadd (pc := 207) C dL_law_207 ?_
    refine j_sld (pc := 208) C hX hbl hbA hn (by omega) (by omega) eb dL_law_208 ?_
    refine j_aload_n (pc := 209) C dL_law_209 3 rfl ?_
    refine j_callSIX (pc := 210) C htr hx (As := [.ref (h 0), .int (zI a), .int (zI b), .ref o9]) (rest := []) rfl (kL_fill_x2 l D h c1 c2 c3 K Dm L lo hi su db S dy li so sp tu ah M o9 f9 a b (by omega) (by omega) (by omega) (by omega) (by omega)) (vx_cwSW 4 C.2.2.2.2.1 gL_law_L_fill rfl rfl rfl (by decide +kernel) ⟨Nat.le_of_ble_eq_true rfl, Nat.le_of_ble_eq_true rfl⟩) dL_law_210 rfl rfl (Nat.le_of_ble_eq_true rfl) ⟨by omega, by omega⟩ ?_
    refine j_istore (pc := 213) C dL_law_213 (by decide) [1, 2, 3, 4, 5, 0] rfl ?_
    refine j_aload_n (pc := 215) C dL_law_215 2 rfl ?_
    refine j_aload_n (pc := 216) C dL_law_216 0 rfl ?_
    refine j_iload (pc := 217) C dL_law_217 4 rfl ?_
    refine j_iconst (pc := 219) C dL_law_219 ?_
    refine j_iadd (pc := 220) C dL_law_220 ?_
    refine j_sld (pc := 221) C hX hbl hbA hn (by omega) (by omega) ea dL_law_221 ?_
    refine j_aload_n (pc := 222) C dL_law_222 0 rfl ?_
    refine j_iload (pc := 223) C dL_law_223 4 rfl ?_
    refine j_iconst (pc := 225) C dL_law_225 ?_
    refine j_iadd (pc := 226) C dL_law_226 ?_
    refine j_sld (pc := 227) C hX hbl hbA hn (by omega) (by omega) eb dL_law_227 ?_
    refine J.swap ?_
    refine j_callFI (pc := 228) C (As := [.int (zI a), .int (zI b)]) (rest := []) (kX1_fill_no2 l D k c1 c2 c3 th L K' Dm' S lo' hi' su' db' dy li so sp X ke se a b (by omega) (by omega) (by omega) (by omega) (by omega)) [0, 1, 2] rfl (cwV 2 C.2.2.2.2.1 gL_law_X1_fill rfl rfl rfl (by decide +kernel) ⟨Nat.le_of_ble_eq_true rfl, Nat.le_of_ble_eq_true rfl⟩) 0 (ci := 1) rfl rfl rfl dL_law_228 rfl rfl (Nat.le_of_ble_eq_true rfl) ⟨by omega, by omega⟩ ?_
    refine j_istore (pc := 231) C dL_law_231 (by decide) [1, 2, 3, 4, 5, 6, 0] rfl ?_
    refine j_aload_n (pc := 233) C dL_law_233 2 rfl ?_
    refine j_callFI (pc := 234) C (As := []) (rest := []) (kX1_thrown l D k c1 c2 c3 _ _ _ _ _ _ _ _ _ _ _ _ _ _ _ _) [0, 1, 2] rfl (cwV 0 C.2.2.2.2.1 gL_law_X1_thrown rfl rfl rfl (by decide +kernel) ⟨Nat.le_of_ble_eq_true rfl, Nat.le_of_ble_eq_true rfl⟩) 0 (ci := 1) rfl rfl rfl dL_law_234 rfl rfl (Nat.le_of_ble_eq_true rfl) ⟨by omega, by omega⟩ ?_
    refine j_iload (pc := 237) C dL_law_237 5 rfl ?_
    refine j_icmp_eq (pc := 239) C 244 (a := 2) (b := 2) dL_law_239 (by decide) ⟨by decide, by decide⟩ ⟨by decide, by decide⟩ (fun _ => ?_) (fun q => absurd rfl q)
    refine j_iload (pc := 244) C dL_law_244 5 rfl ?_
    refine j_if_ne (pc := 246) C 261 dL_law_246 (by decide) ⟨by decide, by decide⟩ (fun _ => ?_) (fun q => absurd q (by decide))
    refine j_goto (pc := 261) C 1713 dL_law_261 (by decide) ?_
    refine J.swap ?_
    refine J.pick [0, 1, 2, 3, 4] rfl ?_
    refine J.widen (k := cells + 1) (n := slots + 9) (by omega) (by omega) (kont _ ?_)
    exact ⟨_, _, _, _, _, _, _, _, _, _, _, _, _, _, _, _, _, _, _, _, _, _, _, _, _, _, rfl, r.up⟩
  refine j_aload_n (pc := 196) C dL_law_196 1 rfl ?_
  refine j_aload_n (pc := 197) C dL_law_197 0 rfl ?_
  refine j_iload (pc := 198) C dL_law_198 4 rfl ?_
  refine j_iconst (pc := 200) C dL_law_200 ?_
  refine j_iadd (pc := 201) C dL_law_201 ?_
  refine j_sld (pc := 202) C hX hbl hbA hn (by omega) (by omega) ea dL_law_202 ?_
  refine j_aload_n (pc := 203) C dL_law_203 0 rfl ?_
  refine j_iload (pc := 204) C dL_law_204 4 rfl ?_
  refine j_iconst (pc := 206) C dL_law_206 ?_
  refine j_iadd (pc := 207) C dL_law_207 ?_
  refine j_sld (pc := 208) C hX hbl hbA hn (by omega) (by omega) eb dL_law_208 ?_
  refine j_aload_n (pc := 209) C dL_law_209 3 rfl ?_
  refine j_callSIX (pc := 210) C htr hx (As := [.ref (h 0), .int (zI a), .int (zI b), .ref o9]) (rest := []) rfl (kL_fill l D h c1 c2 c3 K Dm L lo hi su db S dy li so sp tu ah M o9 f9 a b (by omega) (by omega) (by omega) (by omega) (by omega) (by omega)) (vx_cwSW 4 C.2.2.2.2.1 gL_law_L_fill rfl rfl rfl (by decide +kernel) ⟨Nat.le_of_ble_eq_true rfl, Nat.le_of_ble_eq_true rfl⟩) dL_law_210 rfl rfl (Nat.le_of_ble_eq_true rfl) ⟨by omega, by omega⟩ ?_
  refine j_istore (pc := 213) C dL_law_213 (by decide) [1, 2, 3, 4, 5, 0] rfl ?_
  refine j_aload_n (pc := 215) C dL_law_215 2 rfl ?_
  refine j_aload_n (pc := 216) C dL_law_216 0 rfl ?_
  refine j_iload (pc := 217) C dL_law_217 4 rfl ?_
  refine j_iconst (pc := 219) C dL_law_219 ?_
  refine j_iadd (pc := 220) C dL_law_220 ?_
  refine j_sld (pc := 221) C hX hbl hbA hn (by omega) (by omega) ea dL_law_221 ?_
  refine j_aload_n (pc := 222) C dL_law_222 0 rfl ?_
  refine j_iload (pc := 223) C dL_law_223 4 rfl ?_
  refine j_iconst (pc := 225) C dL_law_225 ?_
  refine j_iadd (pc := 226) C dL_law_226 ?_
  refine j_sld (pc := 227) C hX hbl hbA hn (by omega) (by omega) eb dL_law_227 ?_
  refine J.swap ?_
  refine j_callFI (pc := 228) C (As := [.int (zI a), .int (zI b)]) (rest := []) (kX1_fill l D k c1 c2 c3 th L K' Dm' S lo' hi' su' db' dy li so sp X ke se a b (by omega) (by omega) (by omega) (by omega) (by omega) (by omega)) [0, 1, 2] rfl (cwV 2 C.2.2.2.2.1 gL_law_X1_fill rfl rfl rfl (by decide +kernel) ⟨Nat.le_of_ble_eq_true rfl, Nat.le_of_ble_eq_true rfl⟩) 0 (ci := 1) rfl rfl rfl dL_law_228 rfl rfl (Nat.le_of_ble_eq_true rfl) ⟨by omega, by omega⟩ ?_
  refine j_istore (pc := 231) C dL_law_231 (by decide) [1, 2, 3, 4, 5, 6, 0] rfl ?_
  refine j_aload_n (pc := 233) C dL_law_233 2 rfl ?_
  refine j_callFI (pc := 234) C (As := []) (rest := []) (kX1_thrown l D k c1 c2 c3 _ _ _ _ _ _ _ _ _ _ _ _ _ _ _ _) [0, 1, 2] rfl (cwV 0 C.2.2.2.2.1 gL_law_X1_thrown rfl rfl rfl (by decide +kernel) ⟨Nat.le_of_ble_eq_true rfl, Nat.le_of_ble_eq_true rfl⟩) 0 (ci := 1) rfl rfl rfl dL_law_234 rfl rfl (Nat.le_of_ble_eq_true rfl) ⟨by omega, by omega⟩ ?_
  refine j_iload (pc := 237) C dL_law_237 5 rfl ?_
  refine j_icmp_eq (pc := 239) C 244 (a := 0) (b := 0) dL_law_239 (by decide) ⟨by decide, by decide⟩ ⟨by decide, by decide⟩ (fun _ => ?_) (fun q => absurd rfl q)
  refine j_iload (pc := 244) C dL_law_244 5 rfl ?_
  refine j_if_ne (pc := 246) C 261 dL_law_246 (by decide) ⟨by decide, by decide⟩ (fun q => absurd rfl q) (fun _ => ?_)
  refine j_aload_n (pc := 249) C dL_law_249 3 rfl ?_
  refine j_iconst (pc := 250) C dL_law_250 ?_
  refine j_lald (pc := 251) C 33 2 rfl rfl (by decide) (by decide) dL_law_251 ?_
  refine j_iload (pc := 252) C dL_law_252 6 rfl ?_
  refine j_i2l (pc := 254) C dL_law_254 ?_
  refine j_lcmpE (pc := 255) C (lw_eq rfl) dL_law_255 ?_
  refine j_if_eq (pc := 256) C 261 dL_law_256 (by decide) ⟨by decide, by decide⟩ (fun _ => ?_) (fun q => absurd rfl q)
  refine j_goto (pc := 261) C 1713 dL_law_261 (by decide) ?_
  refine J.swap ?_
  refine J.pick [0, 1, 2, 3, 4] rfl ?_
  refine J.widen (k := cells + 1) (n := slots + 9) (by omega) (by omega) (kont _ ?_)
  exact ⟨_, _, _, _, _, _, _, _, _, _, _, _, _, _, _, _, _, _, _, _, _, _, _, _, _, _, rfl, r.fill a b (by omega) (by omega) (by omega) (by omega) (by omega)⟩
set_option maxHeartbeats 4000000 in
set_option maxRecDepth 100000 in
theorem lw_letOut {p : Program} {l : Launch} {e : Env} {s : State} {m : MethodId} {args : Array Value} {below : List Frame} {meth : Method} {c : Code} {D : va_G} {A : Nat → Prop} {cells slots : Nat} {Q : State → Prop} {c1 c2 c3 : ClassId} {h k : Nat → Nat} {o9 sb n : Nat} {xs : Nat → Int32} (C : GC p s m args meth c cL_law 9 RL wsL_law D (tyS c1 c2 c3) A) (htr : l.stackTraces = false) (hx : xF A s s.heap) (hX : va_X sb n xs s s.heap) (hbl : sb < s.heap.size) (hbA : ¬ A sb) {i : Int} (i0 : 0 ≤ i) (i1 : i + 2 < n) (hn : n ≤ 1536) (hcl : cells + 1 ≤ room_1.cells) (hsl : slots + 9 ≤ room_1.slots) {t : Int} (t0 : 0 ≤ t) (t1 : t < 512) {K Dm : Int → Int} {L : Int} {lo hi su db : Int → Int} {S dy li so sp : Int} {tu ah : Int → Int} {M : Int → Int → Int} {f9 : Nat → Int64} {th : Int} {K' Dm' lo' hi' su' db' : Int → Int} {X : Int → Int → Int} {ke se : Int → Int} (r : Rel t K Dm L lo hi su db S li K' Dm' lo' hi' su' db') (kont : ∀ w, LI (t + 1) c1 c2 c3 h k o9 w → J p l e room_1 s m args below meth c 9 D A (cells + 1) (slots + 9) Q w [(0, .ref sb), (1, .ref (h 0)), (2, .ref (k 0)), (3, .ref o9), (4, .int (zI i))] 1713 []) : J p l e room_1 s m args below meth c 9 D A cells slots Q ((wG h c1 c2 K Dm L lo hi su db S dy li so sp tu ah M ++ [(o9, .inl (c3, 1, .inr (.inl f9)))]) ++ wN k c1 th L K' Dm' S lo' hi' su' db' dy li so sp X ke se) [(0, .ref sb), (1, .ref (h 0)), (2, .ref (k 0)), (3, .ref o9), (4, .int (zI i))] 264 [] := by
  obtain ⟨⟨⟨hL0, hL⟩, ⟨hS0, hS⟩, hf, hs⟩, hd, hk, ⟨l0, l1⟩, eK, eD, e1, e2, e3, e4⟩ := id r
  obtain ⟨a, ea⟩ : ∃ a, (xs (i + 1).toNat).toInt = a := ⟨_, rfl⟩
  obtain ⟨b, eb⟩ : ∃ b, (xs (i + 2).toNat).toInt = b := ⟨_, rfl⟩
  have ha : zR a := by rw [← ea]; exact zR_of _
  have hb : zR b := by rw [← eb]; exact zR_of _
  obtain ⟨ha1, ha2⟩ := id ha
  obtain ⟨hb1, hb2⟩ := id hb
  by_cases hq0 : 1 ≤ L
  case neg =>
    refine j_aload_n (pc := 264) C dL_law_264 1 rfl ?_
    refine j_aload_n (pc := 265) C dL_law_265 3 rfl ?_
    refine j_callSIX (pc := 266) C htr hx (As := [.ref (h 0), .ref o9]) (rest := []) rfl (kL_letOut_x1 l D h c1 c2 c3 K Dm L lo hi su db S dy li so sp tu ah M o9 f9 (by omega)) (vx_cwSW 2 C.2.2.2.2.1 gL_law_L_letOut rfl rfl rfl (by decide +kernel) ⟨Nat.le_of_ble_eq_true rfl, Nat.le_of_ble_eq_true rfl⟩) dL_law_266 rfl rfl (Nat.le_of_ble_eq_true rfl) ⟨by omega, by omega⟩ ?_
    refine j_istore (pc := 269) C dL_law_269 (by decide) [1, 2, 3, 4, 5, 0] rfl ?_
    refine j_aload_n (pc := 271) C dL_law_271 2 rfl ?_
    refine J.swap ?_
    refine j_callFI (pc := 272) C (As := []) (rest := []) (kX1_letOut_no1 l D k c1 c2 c3 th L K' Dm' S lo' hi' su' db' dy li so sp X ke se (by omega)) [0, 1, 2] rfl (cwV 0 C.2.2.2.2.1 gL_law_X1_letOut rfl rfl rfl (by decide +kernel) ⟨Nat.le_of_ble_eq_true rfl, Nat.le_of_ble_eq_true rfl⟩) 0 (ci := 1) rfl rfl rfl dL_law_272 rfl rfl (Nat.le_of_ble_eq_true rfl) ⟨by omega, by omega⟩ ?_
    refine j_istore (pc := 275) C dL_law_275 (by decide) [1, 2, 3, 4, 5, 6, 0] rfl ?_
    refine j_aload_n (pc := 277) C dL_law_277 2 rfl ?_
    refine j_callFI (pc := 278) C (As := []) (rest := []) (kX1_thrown l D k c1 c2 c3 _ _ _ _ _ _ _ _ _ _ _ _ _ _ _ _) [0, 1, 2] rfl (cwV 0 C.2.2.2.2.1 gL_law_X1_thrown rfl rfl rfl (by decide +kernel) ⟨Nat.le_of_ble_eq_true rfl, Nat.le_of_ble_eq_true rfl⟩) 0 (ci := 1) rfl rfl rfl dL_law_278 rfl rfl (Nat.le_of_ble_eq_true rfl) ⟨by omega, by omega⟩ ?_
    refine j_iload (pc := 281) C dL_law_281 5 rfl ?_
    refine j_icmp_eq (pc := 283) C 288 (a := 1) (b := 1) dL_law_283 (by decide) ⟨by decide, by decide⟩ ⟨by decide, by decide⟩ (fun _ => ?_) (fun q => absurd rfl q)
    refine j_iload (pc := 288) C dL_law_288 5 rfl ?_
    refine j_if_ne (pc := 290) C 305 dL_law_290 (by decide) ⟨by decide, by decide⟩ (fun _ => ?_) (fun q => absurd q (by decide))
    refine j_goto (pc := 305) C 1713 dL_law_305 (by decide) ?_
    refine J.swap ?_
    refine J.pick [0, 1, 2, 3, 4] rfl ?_
    refine J.widen (k := cells + 1) (n := slots + 9) (by omega) (by omega) (kont _ ?_)
    exact ⟨_, _, _, _, _, _, _, _, _, _, _, _, _, _, _, _, _, _, _, _, _, _, _, _, _, _, rfl, r.up⟩
  refine j_aload_n (pc := 264) C dL_law_264 1 rfl ?_
  refine j_aload_n (pc := 265) C dL_law_265 3 rfl ?_
  refine j_callSIX (pc := 266) C htr hx (As := [.ref (h 0), .ref o9]) (rest := []) rfl (kL_letOut l D h c1 c2 c3 K Dm L lo hi su db S dy li so sp tu ah M o9 f9 r.1 (by omega) (by omega) (by omega)) (vx_cwSW 2 C.2.2.2.2.1 gL_law_L_letOut rfl rfl rfl (by decide +kernel) ⟨Nat.le_of_ble_eq_true rfl, Nat.le_of_ble_eq_true rfl⟩) dL_law_266 rfl rfl (Nat.le_of_ble_eq_true rfl) ⟨by omega, by omega⟩ ?_
  refine j_istore (pc := 269) C dL_law_269 (by decide) [1, 2, 3, 4, 5, 0] rfl ?_
  refine j_aload_n (pc := 271) C dL_law_271 2 rfl ?_
  refine J.swap ?_
  refine j_callFI (pc := 272) C (As := []) (rest := []) (kX1_letOut l D k c1 c2 c3 th L K' Dm' S lo' hi' su' db' dy li so sp X ke se r.okm (by omega) (by omega) (by omega)) [0, 1, 2] rfl (cwV 0 C.2.2.2.2.1 gL_law_X1_letOut rfl rfl rfl (by decide +kernel) ⟨Nat.le_of_ble_eq_true rfl, Nat.le_of_ble_eq_true rfl⟩) 0 (ci := 1) rfl rfl rfl dL_law_272 rfl rfl (Nat.le_of_ble_eq_true rfl) ⟨by omega, by omega⟩ ?_
  refine j_istore (pc := 275) C dL_law_275 (by decide) [1, 2, 3, 4, 5, 6, 0] rfl ?_
  refine j_aload_n (pc := 277) C dL_law_277 2 rfl ?_
  refine j_callFI (pc := 278) C (As := []) (rest := []) (kX1_thrown l D k c1 c2 c3 _ _ _ _ _ _ _ _ _ _ _ _ _ _ _ _) [0, 1, 2] rfl (cwV 0 C.2.2.2.2.1 gL_law_X1_thrown rfl rfl rfl (by decide +kernel) ⟨Nat.le_of_ble_eq_true rfl, Nat.le_of_ble_eq_true rfl⟩) 0 (ci := 1) rfl rfl rfl dL_law_278 rfl rfl (Nat.le_of_ble_eq_true rfl) ⟨by omega, by omega⟩ ?_
  refine j_iload (pc := 281) C dL_law_281 5 rfl ?_
  refine j_icmp_eq (pc := 283) C 288 (a := 0) (b := 0) dL_law_283 (by decide) ⟨by decide, by decide⟩ ⟨by decide, by decide⟩ (fun _ => ?_) (fun q => absurd rfl q)
  refine j_iload (pc := 288) C dL_law_288 5 rfl ?_
  refine j_if_ne (pc := 290) C 305 dL_law_290 (by decide) ⟨by decide, by decide⟩ (fun q => absurd rfl q) (fun _ => ?_)
  refine j_aload_n (pc := 293) C dL_law_293 3 rfl ?_
  refine j_iconst (pc := 294) C dL_law_294 ?_
  refine j_lald (pc := 295) C 33 2 rfl rfl (by decide) (by decide) dL_law_295 ?_
  refine j_iload (pc := 296) C dL_law_296 6 rfl ?_
  refine j_i2l (pc := 298) C dL_law_298 ?_
  refine j_lcmpE (pc := 299) C (lw_eq (r.letOut (by omega)).2.1.symm) dL_law_299 ?_
  refine j_if_eq (pc := 300) C 305 dL_law_300 (by decide) ⟨by decide, by decide⟩ (fun _ => ?_) (fun q => absurd rfl q)
  refine j_goto (pc := 305) C 1713 dL_law_305 (by decide) ?_
  obtain ⟨f1, f2, f3⟩ := r.letOut (by omega)
  rw [f1, f2] at f3 ⊢
  refine J.swap ?_
  refine J.pick [0, 1, 2, 3, 4] rfl ?_
  refine J.widen (k := cells + 1) (n := slots + 9) (by omega) (by omega) (kont _ ?_)
  exact ⟨_, _, _, _, _, _, _, _, _, _, _, _, _, _, _, _, _, _, _, _, _, _, _, _, _, _, rfl, f3⟩
set_option maxHeartbeats 4000000 in
set_option maxRecDepth 100000 in
theorem lw_turnOver {p : Program} {l : Launch} {e : Env} {s : State} {m : MethodId} {args : Array Value} {below : List Frame} {meth : Method} {c : Code} {D : va_G} {A : Nat → Prop} {cells slots : Nat} {Q : State → Prop} {c1 c2 c3 : ClassId} {h k : Nat → Nat} {o9 sb n : Nat} {xs : Nat → Int32} (C : GC p s m args meth c cL_law 9 RL wsL_law D (tyS c1 c2 c3) A) (htr : l.stackTraces = false) (hx : xF A s s.heap) (hX : va_X sb n xs s s.heap) (hbl : sb < s.heap.size) (hbA : ¬ A sb) {i : Int} (i0 : 0 ≤ i) (i1 : i + 2 < n) (hn : n ≤ 1536) (hcl : cells + 1 ≤ room_1.cells) (hsl : slots + 9 ≤ room_1.slots) {t : Int} (t0 : 0 ≤ t) (t1 : t < 512) {K Dm : Int → Int} {L : Int} {lo hi su db : Int → Int} {S dy li so sp : Int} {tu ah : Int → Int} {M : Int → Int → Int} {f9 : Nat → Int64} {th : Int} {K' Dm' lo' hi' su' db' : Int → Int} {X : Int → Int → Int} {ke se : Int → Int} (r : Rel t K Dm L lo hi su db S li K' Dm' lo' hi' su' db') (kont : ∀ w, LI (t + 1) c1 c2 c3 h k o9 w → J p l e room_1 s m args below meth c 9 D A (cells + 1) (slots + 9) Q w [(0, .ref sb), (1, .ref (h 0)), (2, .ref (k 0)), (3, .ref o9), (4, .int (zI i))] 1713 []) : J p l e room_1 s m args below meth c 9 D A cells slots Q ((wG h c1 c2 K Dm L lo hi su db S dy li so sp tu ah M ++ [(o9, .inl (c3, 1, .inr (.inl f9)))]) ++ wN k c1 th L K' Dm' S lo' hi' su' db' dy li so sp X ke se) [(0, .ref sb), (1, .ref (h 0)), (2, .ref (k 0)), (3, .ref o9), (4, .int (zI i))] 308 [] := by
  obtain ⟨⟨⟨hL0, hL⟩, ⟨hS0, hS⟩, hf, hs⟩, hd, hk, ⟨l0, l1⟩, eK, eD, e1, e2, e3, e4⟩ := id r
  obtain ⟨a, ea⟩ : ∃ a, (xs (i + 1).toNat).toInt = a := ⟨_, rfl⟩
  obtain ⟨b, eb⟩ : ∃ b, (xs (i + 2).toNat).toInt = b := ⟨_, rfl⟩
  have ha : zR a := by rw [← ea]; exact zR_of _
  have hb : zR b := by rw [← eb]; exact zR_of _
  obtain ⟨ha1, ha2⟩ := id ha
  obtain ⟨hb1, hb2⟩ := id hb
  by_cases hq0 : 2 ≤ L
  case neg =>
    refine j_aload_n (pc := 308) C dL_law_308 1 rfl ?_
    refine j_aload_n (pc := 309) C dL_law_309 3 rfl ?_
    refine j_callSIX (pc := 310) C htr hx (As := [.ref (h 0), .ref o9]) (rest := []) rfl (kL_turnOver_x1 l D h c1 c2 c3 K Dm L lo hi su db S dy li so sp tu ah M o9 f9 (by omega) (by omega)) (vx_cwSW 2 C.2.2.2.2.1 gL_law_L_turnOver rfl rfl rfl (by decide +kernel) ⟨Nat.le_of_ble_eq_true rfl, Nat.le_of_ble_eq_true rfl⟩) dL_law_310 rfl rfl (Nat.le_of_ble_eq_true rfl) ⟨by omega, by omega⟩ ?_
    refine j_istore (pc := 313) C dL_law_313 (by decide) [1, 2, 3, 4, 5, 0] rfl ?_
    refine j_aload_n (pc := 315) C dL_law_315 2 rfl ?_
    refine J.swap ?_
    refine j_callFI (pc := 316) C (As := []) (rest := []) (kX1_turnOver_no1 l D k c1 c2 c3 th L K' Dm' S lo' hi' su' db' dy li so sp X ke se (by omega) (by omega)) [0, 1, 2] rfl (cwV 0 C.2.2.2.2.1 gL_law_X1_turnOver rfl rfl rfl (by decide +kernel) ⟨Nat.le_of_ble_eq_true rfl, Nat.le_of_ble_eq_true rfl⟩) 0 (ci := 1) rfl rfl rfl dL_law_316 rfl rfl (Nat.le_of_ble_eq_true rfl) ⟨by omega, by omega⟩ ?_
    refine j_istore (pc := 319) C dL_law_319 (by decide) [1, 2, 3, 4, 5, 6, 0] rfl ?_
    refine j_aload_n (pc := 321) C dL_law_321 2 rfl ?_
    refine j_callFI (pc := 322) C (As := []) (rest := []) (kX1_thrown l D k c1 c2 c3 _ _ _ _ _ _ _ _ _ _ _ _ _ _ _ _) [0, 1, 2] rfl (cwV 0 C.2.2.2.2.1 gL_law_X1_thrown rfl rfl rfl (by decide +kernel) ⟨Nat.le_of_ble_eq_true rfl, Nat.le_of_ble_eq_true rfl⟩) 0 (ci := 1) rfl rfl rfl dL_law_322 rfl rfl (Nat.le_of_ble_eq_true rfl) ⟨by omega, by omega⟩ ?_
    refine j_iload (pc := 325) C dL_law_325 5 rfl ?_
    refine j_icmp_eq (pc := 327) C 332 (a := 1) (b := 1) dL_law_327 (by decide) ⟨by decide, by decide⟩ ⟨by decide, by decide⟩ (fun _ => ?_) (fun q => absurd rfl q)
    refine j_iload (pc := 332) C dL_law_332 5 rfl ?_
    refine j_if_ne (pc := 334) C 349 dL_law_334 (by decide) ⟨by decide, by decide⟩ (fun _ => ?_) (fun q => absurd q (by decide))
    refine j_goto (pc := 349) C 1713 dL_law_349 (by decide) ?_
    refine J.swap ?_
    refine J.pick [0, 1, 2, 3, 4] rfl ?_
    refine J.widen (k := cells + 1) (n := slots + 9) (by omega) (by omega) (kont _ ?_)
    exact ⟨_, _, _, _, _, _, _, _, _, _, _, _, _, _, _, _, _, _, _, _, _, _, _, _, _, _, rfl, r.up⟩
  refine j_aload_n (pc := 308) C dL_law_308 1 rfl ?_
  refine j_aload_n (pc := 309) C dL_law_309 3 rfl ?_
  refine j_callSIX (pc := 310) C htr hx (As := [.ref (h 0), .ref o9]) (rest := []) rfl (kL_turnOver l D h c1 c2 c3 K Dm L lo hi su db S dy li so sp tu ah M o9 f9 r.1 (by omega)) (vx_cwSW 2 C.2.2.2.2.1 gL_law_L_turnOver rfl rfl rfl (by decide +kernel) ⟨Nat.le_of_ble_eq_true rfl, Nat.le_of_ble_eq_true rfl⟩) dL_law_310 rfl rfl (Nat.le_of_ble_eq_true rfl) ⟨by omega, by omega⟩ ?_
  refine j_istore (pc := 313) C dL_law_313 (by decide) [1, 2, 3, 4, 5, 0] rfl ?_
  refine j_aload_n (pc := 315) C dL_law_315 2 rfl ?_
  refine J.swap ?_
  refine j_callFI (pc := 316) C (As := []) (rest := []) (kX1_turnOver l D k c1 c2 c3 th L K' Dm' S lo' hi' su' db' dy li so sp X ke se r.okm (by omega)) [0, 1, 2] rfl (cwV 0 C.2.2.2.2.1 gL_law_X1_turnOver rfl rfl rfl (by decide +kernel) ⟨Nat.le_of_ble_eq_true rfl, Nat.le_of_ble_eq_true rfl⟩) 0 (ci := 1) rfl rfl rfl dL_law_316 rfl rfl (Nat.le_of_ble_eq_true rfl) ⟨by omega, by omega⟩ ?_
  refine j_istore (pc := 319) C dL_law_319 (by decide) [1, 2, 3, 4, 5, 6, 0] rfl ?_
  refine j_aload_n (pc := 321) C dL_law_321 2 rfl ?_
  refine j_callFI (pc := 322) C (As := []) (rest := []) (kX1_thrown l D k c1 c2 c3 _ _ _ _ _ _ _ _ _ _ _ _ _ _ _ _) [0, 1, 2] rfl (cwV 0 C.2.2.2.2.1 gL_law_X1_thrown rfl rfl rfl (by decide +kernel) ⟨Nat.le_of_ble_eq_true rfl, Nat.le_of_ble_eq_true rfl⟩) 0 (ci := 1) rfl rfl rfl dL_law_322 rfl rfl (Nat.le_of_ble_eq_true rfl) ⟨by omega, by omega⟩ ?_
  refine j_iload (pc := 325) C dL_law_325 5 rfl ?_
  refine j_icmp_eq (pc := 327) C 332 (a := 0) (b := 0) dL_law_327 (by decide) ⟨by decide, by decide⟩ ⟨by decide, by decide⟩ (fun _ => ?_) (fun q => absurd rfl q)
  refine j_iload (pc := 332) C dL_law_332 5 rfl ?_
  refine j_if_ne (pc := 334) C 349 dL_law_334 (by decide) ⟨by decide, by decide⟩ (fun q => absurd rfl q) (fun _ => ?_)
  refine j_aload_n (pc := 337) C dL_law_337 3 rfl ?_
  refine j_iconst (pc := 338) C dL_law_338 ?_
  refine j_lald (pc := 339) C 33 2 rfl rfl (by decide) (by decide) dL_law_339 ?_
  refine j_iload (pc := 340) C dL_law_340 6 rfl ?_
  refine j_i2l (pc := 342) C dL_law_342 ?_
  refine j_lcmpE (pc := 343) C (lw_eq (by rw [(r.turnOver (by omega)).1])) dL_law_343 ?_
  refine j_if_eq (pc := 344) C 349 dL_law_344 (by decide) ⟨by decide, by decide⟩ (fun _ => ?_) (fun q => absurd rfl q)
  refine j_goto (pc := 349) C 1713 dL_law_349 (by decide) ?_
  obtain ⟨f1, f3⟩ := r.turnOver (by omega)
  have f0 : L - 1 + 1 = L := by omega
  rw [f0, f1] at f3 ⊢
  refine J.swap ?_
  refine J.pick [0, 1, 2, 3, 4] rfl ?_
  refine J.widen (k := cells + 1) (n := slots + 9) (by omega) (by omega) (kont _ ?_)
  exact ⟨_, _, _, _, _, _, _, _, _, _, _, _, _, _, _, _, _, _, _, _, _, _, _, _, _, _, rfl, f3⟩
set_option maxHeartbeats 4000000 in
set_option maxRecDepth 100000 in
theorem lw_setLimit {p : Program} {l : Launch} {e : Env} {s : State} {m : MethodId} {args : Array Value} {below : List Frame} {meth : Method} {c : Code} {D : va_G} {A : Nat → Prop} {cells slots : Nat} {Q : State → Prop} {c1 c2 c3 : ClassId} {h k : Nat → Nat} {o9 sb n : Nat} {xs : Nat → Int32} (C : GC p s m args meth c cL_law 9 RL wsL_law D (tyS c1 c2 c3) A) (htr : l.stackTraces = false) (hx : xF A s s.heap) (hX : va_X sb n xs s s.heap) (hbl : sb < s.heap.size) (hbA : ¬ A sb) {i : Int} (i0 : 0 ≤ i) (i1 : i + 2 < n) (hn : n ≤ 1536) (hcl : cells + 1 ≤ room_1.cells) (hsl : slots + 9 ≤ room_1.slots) {t : Int} (t0 : 0 ≤ t) (t1 : t < 512) {K Dm : Int → Int} {L : Int} {lo hi su db : Int → Int} {S dy li so sp : Int} {tu ah : Int → Int} {M : Int → Int → Int} {f9 : Nat → Int64} {th : Int} {K' Dm' lo' hi' su' db' : Int → Int} {X : Int → Int → Int} {ke se : Int → Int} (r : Rel t K Dm L lo hi su db S li K' Dm' lo' hi' su' db') (kont : ∀ w, LI (t + 1) c1 c2 c3 h k o9 w → J p l e room_1 s m args below meth c 9 D A (cells + 1) (slots + 9) Q w [(0, .ref sb), (1, .ref (h 0)), (2, .ref (k 0)), (3, .ref o9), (4, .int (zI i))] 1713 []) : J p l e room_1 s m args below meth c 9 D A cells slots Q ((wG h c1 c2 K Dm L lo hi su db S dy li so sp tu ah M ++ [(o9, .inl (c3, 1, .inr (.inl f9)))]) ++ wN k c1 th L K' Dm' S lo' hi' su' db' dy li so sp X ke se) [(0, .ref sb), (1, .ref (h 0)), (2, .ref (k 0)), (3, .ref o9), (4, .int (zI i))] 352 [] := by
  obtain ⟨⟨⟨hL0, hL⟩, ⟨hS0, hS⟩, hf, hs⟩, hd, hk, ⟨l0, l1⟩, eK, eD, e1, e2, e3, e4⟩ := id r
  obtain ⟨a, ea⟩ : ∃ a, (xs (i + 1).toNat).toInt = a := ⟨_, rfl⟩
  obtain ⟨b, eb⟩ : ∃ b, (xs (i + 2).toNat).toInt = b := ⟨_, rfl⟩
  have ha : zR a := by rw [← ea]; exact zR_of _
  have hb : zR b := by rw [← eb]; exact zR_of _
  obtain ⟨ha1, ha2⟩ := id ha
  obtain ⟨hb1, hb2⟩ := id hb
  by_cases hq0 : 0 ≤ a ∧ a ≤ 40
  case neg =>
    refine j_aload_n (pc := 352) C dL_law_352 1 rfl ?_
    refine j_aload_n (pc := 353) C dL_law_353 0 rfl ?_
    refine j_iload (pc := 354) C dL_law_354 4 rfl ?_
    refine j_iconst (pc := 356) C dL_law_356 ?_
    refine j_iadd (pc := 357) C dL_law_357 ?_
    refine j_sld (pc := 358) C hX hbl hbA hn (by omega) (by omega) ea dL_law_358 ?_
    refine j_aload_n (pc := 359) C dL_law_359 3 rfl ?_
    refine j_callSIX (pc := 360) C htr hx (As := [.ref (h 0), .int (zI a), .ref o9]) (rest := []) rfl (kL_setLimit_x1 l D h c1 c2 c3 K Dm L lo hi su db S dy li so sp tu ah M o9 f9 a ha (by omega)) (vx_cwSW 3 C.2.2.2.2.1 gL_law_L_setLimit rfl rfl rfl (by decide +kernel) ⟨Nat.le_of_ble_eq_true rfl, Nat.le_of_ble_eq_true rfl⟩) dL_law_360 rfl rfl (Nat.le_of_ble_eq_true rfl) ⟨by omega, by omega⟩ ?_
    refine j_istore (pc := 363) C dL_law_363 (by decide) [1, 2, 3, 4, 5, 0] rfl ?_
    refine j_aload_n (pc := 365) C dL_law_365 2 rfl ?_
    refine j_aload_n (pc := 366) C dL_law_366 0 rfl ?_
    refine j_iload (pc := 367) C dL_law_367 4 rfl ?_
    refine j_iconst (pc := 369) C dL_law_369 ?_
    refine j_iadd (pc := 370) C dL_law_370 ?_
    refine j_sld (pc := 371) C hX hbl hbA hn (by omega) (by omega) ea dL_law_371 ?_
    refine J.swap ?_
    refine j_callFI (pc := 372) C (As := [.int (zI a)]) (rest := []) (kX1_setLimit_no1 l D k c1 c2 c3 th L K' Dm' S lo' hi' su' db' dy li so sp X ke se a ha (by omega)) [0, 1, 2] rfl (cwV 1 C.2.2.2.2.1 gL_law_X1_setLimit rfl rfl rfl (by decide +kernel) ⟨Nat.le_of_ble_eq_true rfl, Nat.le_of_ble_eq_true rfl⟩) 0 (ci := 1) rfl rfl rfl dL_law_372 rfl rfl (Nat.le_of_ble_eq_true rfl) ⟨by omega, by omega⟩ ?_
    refine j_istore (pc := 375) C dL_law_375 (by decide) [1, 2, 3, 4, 5, 6, 0] rfl ?_
    refine j_aload_n (pc := 377) C dL_law_377 2 rfl ?_
    refine j_callFI (pc := 378) C (As := []) (rest := []) (kX1_thrown l D k c1 c2 c3 _ _ _ _ _ _ _ _ _ _ _ _ _ _ _ _) [0, 1, 2] rfl (cwV 0 C.2.2.2.2.1 gL_law_X1_thrown rfl rfl rfl (by decide +kernel) ⟨Nat.le_of_ble_eq_true rfl, Nat.le_of_ble_eq_true rfl⟩) 0 (ci := 1) rfl rfl rfl dL_law_378 rfl rfl (Nat.le_of_ble_eq_true rfl) ⟨by omega, by omega⟩ ?_
    refine j_iload (pc := 381) C dL_law_381 5 rfl ?_
    refine j_icmp_eq (pc := 383) C 388 (a := 1) (b := 1) dL_law_383 (by decide) ⟨by decide, by decide⟩ ⟨by decide, by decide⟩ (fun _ => ?_) (fun q => absurd rfl q)
    refine j_iload (pc := 388) C dL_law_388 5 rfl ?_
    refine j_if_ne (pc := 390) C 405 dL_law_390 (by decide) ⟨by decide, by decide⟩ (fun _ => ?_) (fun q => absurd q (by decide))
    refine j_goto (pc := 405) C 1713 dL_law_405 (by decide) ?_
    refine J.swap ?_
    refine J.pick [0, 1, 2, 3, 4] rfl ?_
    refine J.widen (k := cells + 1) (n := slots + 9) (by omega) (by omega) (kont _ ?_)
    exact ⟨_, _, _, _, _, _, _, _, _, _, _, _, _, _, _, _, _, _, _, _, _, _, _, _, _, _, rfl, r.up⟩
  refine j_aload_n (pc := 352) C dL_law_352 1 rfl ?_
  refine j_aload_n (pc := 353) C dL_law_353 0 rfl ?_
  refine j_iload (pc := 354) C dL_law_354 4 rfl ?_
  refine j_iconst (pc := 356) C dL_law_356 ?_
  refine j_iadd (pc := 357) C dL_law_357 ?_
  refine j_sld (pc := 358) C hX hbl hbA hn (by omega) (by omega) ea dL_law_358 ?_
  refine j_aload_n (pc := 359) C dL_law_359 3 rfl ?_
  refine j_callSIX (pc := 360) C htr hx (As := [.ref (h 0), .int (zI a), .ref o9]) (rest := []) rfl (kL_setLimit l D h c1 c2 c3 K Dm L lo hi su db S dy li so sp tu ah M o9 f9 a (by omega) (by omega)) (vx_cwSW 3 C.2.2.2.2.1 gL_law_L_setLimit rfl rfl rfl (by decide +kernel) ⟨Nat.le_of_ble_eq_true rfl, Nat.le_of_ble_eq_true rfl⟩) dL_law_360 rfl rfl (Nat.le_of_ble_eq_true rfl) ⟨by omega, by omega⟩ ?_
  refine j_istore (pc := 363) C dL_law_363 (by decide) [1, 2, 3, 4, 5, 0] rfl ?_
  refine j_aload_n (pc := 365) C dL_law_365 2 rfl ?_
  refine j_aload_n (pc := 366) C dL_law_366 0 rfl ?_
  refine j_iload (pc := 367) C dL_law_367 4 rfl ?_
  refine j_iconst (pc := 369) C dL_law_369 ?_
  refine j_iadd (pc := 370) C dL_law_370 ?_
  refine j_sld (pc := 371) C hX hbl hbA hn (by omega) (by omega) ea dL_law_371 ?_
  refine J.swap ?_
  refine j_callFI (pc := 372) C (As := [.int (zI a)]) (rest := []) (kX1_setLimit l D k c1 c2 c3 th L K' Dm' S lo' hi' su' db' dy li so sp X ke se a (by omega) (by omega)) [0, 1, 2] rfl (cwV 1 C.2.2.2.2.1 gL_law_X1_setLimit rfl rfl rfl (by decide +kernel) ⟨Nat.le_of_ble_eq_true rfl, Nat.le_of_ble_eq_true rfl⟩) 0 (ci := 1) rfl rfl rfl dL_law_372 rfl rfl (Nat.le_of_ble_eq_true rfl) ⟨by omega, by omega⟩ ?_
  refine j_istore (pc := 375) C dL_law_375 (by decide) [1, 2, 3, 4, 5, 6, 0] rfl ?_
  refine j_aload_n (pc := 377) C dL_law_377 2 rfl ?_
  refine j_callFI (pc := 378) C (As := []) (rest := []) (kX1_thrown l D k c1 c2 c3 _ _ _ _ _ _ _ _ _ _ _ _ _ _ _ _) [0, 1, 2] rfl (cwV 0 C.2.2.2.2.1 gL_law_X1_thrown rfl rfl rfl (by decide +kernel) ⟨Nat.le_of_ble_eq_true rfl, Nat.le_of_ble_eq_true rfl⟩) 0 (ci := 1) rfl rfl rfl dL_law_378 rfl rfl (Nat.le_of_ble_eq_true rfl) ⟨by omega, by omega⟩ ?_
  refine j_iload (pc := 381) C dL_law_381 5 rfl ?_
  refine j_icmp_eq (pc := 383) C 388 (a := 0) (b := 0) dL_law_383 (by decide) ⟨by decide, by decide⟩ ⟨by decide, by decide⟩ (fun _ => ?_) (fun q => absurd rfl q)
  refine j_iload (pc := 388) C dL_law_388 5 rfl ?_
  refine j_if_ne (pc := 390) C 405 dL_law_390 (by decide) ⟨by decide, by decide⟩ (fun q => absurd rfl q) (fun _ => ?_)
  refine j_aload_n (pc := 393) C dL_law_393 3 rfl ?_
  refine j_iconst (pc := 394) C dL_law_394 ?_
  refine j_lald (pc := 395) C 33 2 rfl rfl (by decide) (by decide) dL_law_395 ?_
  refine j_iload (pc := 396) C dL_law_396 6 rfl ?_
  refine j_i2l (pc := 398) C dL_law_398 ?_
  refine j_lcmpE (pc := 399) C (lw_eq rfl) dL_law_399 ?_
  refine j_if_eq (pc := 400) C 405 dL_law_400 (by decide) ⟨by decide, by decide⟩ (fun _ => ?_) (fun q => absurd rfl q)
  refine j_goto (pc := 405) C 1713 dL_law_405 (by decide) ?_
  refine J.swap ?_
  refine J.pick [0, 1, 2, 3, 4] rfl ?_
  refine J.widen (k := cells + 1) (n := slots + 9) (by omega) (by omega) (kont _ ?_)
  exact ⟨_, _, _, _, _, _, _, _, _, _, _, _, _, _, _, _, _, _, _, _, _, _, _, _, _, _, rfl, r.setLimit a (by omega) (by omega)⟩
set_option maxHeartbeats 4000000 in
set_option maxRecDepth 100000 in
theorem lw_pass {p : Program} {l : Launch} {e : Env} {s : State} {m : MethodId} {args : Array Value} {below : List Frame} {meth : Method} {c : Code} {D : va_G} {A : Nat → Prop} {cells slots : Nat} {Q : State → Prop} {c1 c2 c3 : ClassId} {h k : Nat → Nat} {o9 sb n : Nat} {xs : Nat → Int32} (C : GC p s m args meth c cL_law 9 RL wsL_law D (tyS c1 c2 c3) A) (htr : l.stackTraces = false) (hx : xF A s s.heap) (hX : va_X sb n xs s s.heap) (hbl : sb < s.heap.size) (hbA : ¬ A sb) {i : Int} (i0 : 0 ≤ i) (i1 : i + 2 < n) (hn : n ≤ 1536) (hcl : cells + 1 ≤ room_1.cells) (hsl : slots + 9 ≤ room_1.slots) {t : Int} (t0 : 0 ≤ t) (t1 : t < 512) {K Dm : Int → Int} {L : Int} {lo hi su db : Int → Int} {S dy li so sp : Int} {tu ah : Int → Int} {M : Int → Int → Int} {f9 : Nat → Int64} {th : Int} {K' Dm' lo' hi' su' db' : Int → Int} {X : Int → Int → Int} {ke se : Int → Int} (r : Rel t K Dm L lo hi su db S li K' Dm' lo' hi' su' db') (kont : ∀ w, LI (t + 1) c1 c2 c3 h k o9 w → J p l e room_1 s m args below meth c 9 D A (cells + 1) (slots + 9) Q w [(0, .ref sb), (1, .ref (h 0)), (2, .ref (k 0)), (3, .ref o9), (4, .int (zI i))] 1713 []) : J p l e room_1 s m args below meth c 9 D A cells slots Q ((wG h c1 c2 K Dm L lo hi su db S dy li so sp tu ah M ++ [(o9, .inl (c3, 1, .inr (.inl f9)))]) ++ wN k c1 th L K' Dm' S lo' hi' su' db' dy li so sp X ke se) [(0, .ref sb), (1, .ref (h 0)), (2, .ref (k 0)), (3, .ref o9), (4, .int (zI i))] 408 [] := by
  obtain ⟨⟨⟨hL0, hL⟩, ⟨hS0, hS⟩, hf, hs⟩, hd, hk, ⟨l0, l1⟩, eK, eD, e1, e2, e3, e4⟩ := id r
  obtain ⟨a, ea⟩ : ∃ a, (xs (i + 1).toNat).toInt = a := ⟨_, rfl⟩
  obtain ⟨b, eb⟩ : ∃ b, (xs (i + 2).toNat).toInt = b := ⟨_, rfl⟩
  have ha : zR a := by rw [← ea]; exact zR_of _
  have hb : zR b := by rw [← eb]; exact zR_of _
  obtain ⟨ha1, ha2⟩ := id ha
  obtain ⟨hb1, hb2⟩ := id hb
  by_cases hq0 : 1 ≤ a ∧ a ≤ 50
  case neg =>
    refine j_aload_n (pc := 408) C dL_law_408 1 rfl ?_
    refine j_aload_n (pc := 409) C dL_law_409 0 rfl ?_
    refine j_iload (pc := 410) C dL_law_410 4 rfl ?_
    refine j_iconst (pc := 412) C dL_law_412 ?_
    refine j_iadd (pc := 413) C dL_law_413 ?_
    refine j_sld (pc := 414) C hX hbl hbA hn (by omega) (by omega) ea dL_law_414 ?_
    refine j_aload_n (pc := 415) C dL_law_415 3 rfl ?_
    refine j_callSIX (pc := 416) C htr hx (As := [.ref (h 0), .int (zI a), .ref o9]) (rest := []) rfl (kL_pass_x1 l D h c1 c2 c3 K Dm L lo hi su db S dy li so sp tu ah M o9 f9 a ha (by omega)) (vx_cwSW 3 C.2.2.2.2.1 gL_law_L_pass rfl rfl rfl (by decide +kernel) ⟨Nat.le_of_ble_eq_true rfl, Nat.le_of_ble_eq_true rfl⟩) dL_law_416 rfl rfl (Nat.le_of_ble_eq_true rfl) ⟨by omega, by omega⟩ ?_
    refine j_istore (pc := 419) C dL_law_419 (by decide) [1, 2, 3, 4, 5, 0] rfl ?_
    refine j_aload_n (pc := 421) C dL_law_421 2 rfl ?_
    refine j_aload_n (pc := 422) C dL_law_422 0 rfl ?_
    refine j_iload (pc := 423) C dL_law_423 4 rfl ?_
    refine j_iconst (pc := 425) C dL_law_425 ?_
    refine j_iadd (pc := 426) C dL_law_426 ?_
    refine j_sld (pc := 427) C hX hbl hbA hn (by omega) (by omega) ea dL_law_427 ?_
    refine J.swap ?_
    refine j_callFI (pc := 428) C (As := [.int (zI a)]) (rest := []) (kX1_pass_no1 l D k c1 c2 c3 th L K' Dm' S lo' hi' su' db' dy li so sp X ke se a ha (by omega)) [0, 1, 2] rfl (cwV 1 C.2.2.2.2.1 gL_law_X1_pass rfl rfl rfl (by decide +kernel) ⟨Nat.le_of_ble_eq_true rfl, Nat.le_of_ble_eq_true rfl⟩) 0 (ci := 1) rfl rfl rfl dL_law_428 rfl rfl (Nat.le_of_ble_eq_true rfl) ⟨by omega, by omega⟩ ?_
    refine j_istore (pc := 431) C dL_law_431 (by decide) [1, 2, 3, 4, 5, 6, 0] rfl ?_
    refine j_aload_n (pc := 433) C dL_law_433 2 rfl ?_
    refine j_callFI (pc := 434) C (As := []) (rest := []) (kX1_thrown l D k c1 c2 c3 _ _ _ _ _ _ _ _ _ _ _ _ _ _ _ _) [0, 1, 2] rfl (cwV 0 C.2.2.2.2.1 gL_law_X1_thrown rfl rfl rfl (by decide +kernel) ⟨Nat.le_of_ble_eq_true rfl, Nat.le_of_ble_eq_true rfl⟩) 0 (ci := 1) rfl rfl rfl dL_law_434 rfl rfl (Nat.le_of_ble_eq_true rfl) ⟨by omega, by omega⟩ ?_
    refine j_iload (pc := 437) C dL_law_437 5 rfl ?_
    refine j_icmp_eq (pc := 439) C 444 (a := 1) (b := 1) dL_law_439 (by decide) ⟨by decide, by decide⟩ ⟨by decide, by decide⟩ (fun _ => ?_) (fun q => absurd rfl q)
    refine j_iload (pc := 444) C dL_law_444 5 rfl ?_
    refine j_if_ne (pc := 446) C 461 dL_law_446 (by decide) ⟨by decide, by decide⟩ (fun _ => ?_) (fun q => absurd q (by decide))
    refine j_goto (pc := 461) C 1713 dL_law_461 (by decide) ?_
    refine J.swap ?_
    refine J.pick [0, 1, 2, 3, 4] rfl ?_
    refine J.widen (k := cells + 1) (n := slots + 9) (by omega) (by omega) (kont _ ?_)
    exact ⟨_, _, _, _, _, _, _, _, _, _, _, _, _, _, _, _, _, _, _, _, _, _, _, _, _, _, rfl, r.up⟩
  refine j_aload_n (pc := 408) C dL_law_408 1 rfl ?_
  refine j_aload_n (pc := 409) C dL_law_409 0 rfl ?_
  refine j_iload (pc := 410) C dL_law_410 4 rfl ?_
  refine j_iconst (pc := 412) C dL_law_412 ?_
  refine j_iadd (pc := 413) C dL_law_413 ?_
  refine j_sld (pc := 414) C hX hbl hbA hn (by omega) (by omega) ea dL_law_414 ?_
  refine j_aload_n (pc := 415) C dL_law_415 3 rfl ?_
  refine j_callSIX (pc := 416) C htr hx (As := [.ref (h 0), .int (zI a), .ref o9]) (rest := []) rfl (kL_pass l D h c1 c2 c3 K Dm L lo hi su db S dy li so sp tu ah M o9 f9 a r.1 (by omega) (by omega)) (vx_cwSW 3 C.2.2.2.2.1 gL_law_L_pass rfl rfl rfl (by decide +kernel) ⟨Nat.le_of_ble_eq_true rfl, Nat.le_of_ble_eq_true rfl⟩) dL_law_416 rfl rfl (Nat.le_of_ble_eq_true rfl) ⟨by omega, by omega⟩ ?_
  refine j_istore (pc := 419) C dL_law_419 (by decide) [1, 2, 3, 4, 5, 0] rfl ?_
  refine j_aload_n (pc := 421) C dL_law_421 2 rfl ?_
  refine j_aload_n (pc := 422) C dL_law_422 0 rfl ?_
  refine j_iload (pc := 423) C dL_law_423 4 rfl ?_
  refine j_iconst (pc := 425) C dL_law_425 ?_
  refine j_iadd (pc := 426) C dL_law_426 ?_
  refine j_sld (pc := 427) C hX hbl hbA hn (by omega) (by omega) ea dL_law_427 ?_
  refine J.swap ?_
  refine j_callFI (pc := 428) C (As := [.int (zI a)]) (rest := []) (kX1_pass l D k c1 c2 c3 th L K' Dm' S lo' hi' su' db' dy li so sp X ke se a r.okm (by omega) (by omega)) [0, 1, 2] rfl (cwV 1 C.2.2.2.2.1 gL_law_X1_pass rfl rfl rfl (by decide +kernel) ⟨Nat.le_of_ble_eq_true rfl, Nat.le_of_ble_eq_true rfl⟩) 0 (ci := 1) rfl rfl rfl dL_law_428 rfl rfl (Nat.le_of_ble_eq_true rfl) ⟨by omega, by omega⟩ ?_
  refine j_istore (pc := 431) C dL_law_431 (by decide) [1, 2, 3, 4, 5, 6, 0] rfl ?_
  refine j_aload_n (pc := 433) C dL_law_433 2 rfl ?_
  refine j_callFI (pc := 434) C (As := []) (rest := []) (kX1_thrown l D k c1 c2 c3 _ _ _ _ _ _ _ _ _ _ _ _ _ _ _ _) [0, 1, 2] rfl (cwV 0 C.2.2.2.2.1 gL_law_X1_thrown rfl rfl rfl (by decide +kernel) ⟨Nat.le_of_ble_eq_true rfl, Nat.le_of_ble_eq_true rfl⟩) 0 (ci := 1) rfl rfl rfl dL_law_434 rfl rfl (Nat.le_of_ble_eq_true rfl) ⟨by omega, by omega⟩ ?_
  refine j_iload (pc := 437) C dL_law_437 5 rfl ?_
  refine j_icmp_eq (pc := 439) C 444 (a := 0) (b := 0) dL_law_439 (by decide) ⟨by decide, by decide⟩ ⟨by decide, by decide⟩ (fun _ => ?_) (fun q => absurd rfl q)
  refine j_iload (pc := 444) C dL_law_444 5 rfl ?_
  refine j_if_ne (pc := 446) C 461 dL_law_446 (by decide) ⟨by decide, by decide⟩ (fun q => absurd rfl q) (fun _ => ?_)
  refine j_aload_n (pc := 449) C dL_law_449 3 rfl ?_
  refine j_iconst (pc := 450) C dL_law_450 ?_
  refine j_lald (pc := 451) C 33 2 rfl rfl (by decide) (by decide) dL_law_451 ?_
  refine j_iload (pc := 452) C dL_law_452 6 rfl ?_
  refine j_i2l (pc := 454) C dL_law_454 ?_
  refine j_lcmpE (pc := 455) C (lw_eq (dayC_eq eD a)) dL_law_455 ?_
  refine j_if_eq (pc := 456) C 461 dL_law_456 (by decide) ⟨by decide, by decide⟩ (fun _ => ?_) (fun q => absurd rfl q)
  refine j_goto (pc := 461) C 1713 dL_law_461 (by decide) ?_
  refine J.swap ?_
  refine J.pick [0, 1, 2, 3, 4] rfl ?_
  refine J.widen (k := cells + 1) (n := slots + 9) (by omega) (by omega) (kont _ ?_)
  exact ⟨_, _, _, _, _, _, _, _, _, _, _, _, _, _, _, _, _, _, _, _, _, _, _, _, _, _, rfl, r.pass t0 t1 a (by omega) (by omega)⟩
set_option maxHeartbeats 4000000 in
set_option maxRecDepth 100000 in
theorem lw_draw {p : Program} {l : Launch} {e : Env} {s : State} {m : MethodId} {args : Array Value} {below : List Frame} {meth : Method} {c : Code} {D : va_G} {A : Nat → Prop} {cells slots : Nat} {Q : State → Prop} {c1 c2 c3 : ClassId} {h k : Nat → Nat} {o9 sb n : Nat} {xs : Nat → Int32} (C : GC p s m args meth c cL_law 9 RL wsL_law D (tyS c1 c2 c3) A) (htr : l.stackTraces = false) (hx : xF A s s.heap) (hX : va_X sb n xs s s.heap) (hbl : sb < s.heap.size) (hbA : ¬ A sb) {i : Int} (i0 : 0 ≤ i) (i1 : i + 2 < n) (hn : n ≤ 1536) (hcl : cells + 1 ≤ room_1.cells) (hsl : slots + 9 ≤ room_1.slots) {t : Int} (t0 : 0 ≤ t) (t1 : t < 512) {K Dm : Int → Int} {L : Int} {lo hi su db : Int → Int} {S dy li so sp : Int} {tu ah : Int → Int} {M : Int → Int → Int} {f9 : Nat → Int64} {th : Int} {K' Dm' lo' hi' su' db' : Int → Int} {X : Int → Int → Int} {ke se : Int → Int} (r : Rel t K Dm L lo hi su db S li K' Dm' lo' hi' su' db') (kont : ∀ w, LI (t + 1) c1 c2 c3 h k o9 w → J p l e room_1 s m args below meth c 9 D A (cells + 1) (slots + 9) Q w [(0, .ref sb), (1, .ref (h 0)), (2, .ref (k 0)), (3, .ref o9), (4, .int (zI i))] 1713 []) : J p l e room_1 s m args below meth c 9 D A cells slots Q ((wG h c1 c2 K Dm L lo hi su db S dy li so sp tu ah M ++ [(o9, .inl (c3, 1, .inr (.inl f9)))]) ++ wN k c1 th L K' Dm' S lo' hi' su' db' dy li so sp X ke se) [(0, .ref sb), (1, .ref (h 0)), (2, .ref (k 0)), (3, .ref o9), (4, .int (zI i))] 464 [] := by
  obtain ⟨⟨⟨hL0, hL⟩, ⟨hS0, hS⟩, hf, hs⟩, hd, hk, ⟨l0, l1⟩, eK, eD, e1, e2, e3, e4⟩ := id r
  obtain ⟨a, ea⟩ : ∃ a, (xs (i + 1).toNat).toInt = a := ⟨_, rfl⟩
  obtain ⟨b, eb⟩ : ∃ b, (xs (i + 2).toNat).toInt = b := ⟨_, rfl⟩
  have ha : zR a := by rw [← ea]; exact zR_of _
  have hb : zR b := by rw [← eb]; exact zR_of _
  obtain ⟨ha1, ha2⟩ := id ha
  obtain ⟨hb1, hb2⟩ := id hb
  by_cases hq0 : 0 ≤ a ∧ a ≤ b ∧ b < L
  case neg =>
    refine j_aload_n (pc := 464) C dL_law_464 1 rfl ?_
    refine j_aload_n (pc := 465) C dL_law_465 0 rfl ?_
    refine j_iload (pc := 466) C dL_law_466 4 rfl ?_
    refine j_iconst (pc := 468) C dL_law_468 ?_
    refine j_iadd (pc := 469) C dL_law_469 ?_
    refine j_sld (pc := 470) C hX hbl hbA hn (by omega) (by omega) ea dL_law_470 ?_
    refine j_aload_n (pc := 471) C dL_law_471 0 rfl ?_
    refine j_iload (pc := 472) C dL_law_472 4 rfl ?_
    refine j_iconst (pc := 474) C dL_law_474 ?_
    refine j_iadd (pc := 475) C dL_law_475 ?_
    refine j_sld (pc := 476) C hX hbl hbA hn (by omega) (by omega) eb dL_law_476 ?_
    refine j_aload_n (pc := 477) C dL_law_477 3 rfl ?_
    refine j_callSIX (pc := 478) C htr hx (As := [.ref (h 0), .int (zI a), .int (zI b), .ref o9]) (rest := []) rfl (kL_draw_x1 l D h c1 c2 c3 K Dm L lo hi su db S dy li so sp tu ah M o9 f9 a b (by omega) (by omega) ha hb (by omega)) (vx_cwSW 4 C.2.2.2.2.1 gL_law_L_draw rfl rfl rfl (by decide +kernel) ⟨Nat.le_of_ble_eq_true rfl, Nat.le_of_ble_eq_true rfl⟩) dL_law_478 rfl rfl (Nat.le_of_ble_eq_true rfl) ⟨by omega, by omega⟩ ?_
    refine j_istore (pc := 481) C dL_law_481 (by decide) [1, 2, 3, 4, 5, 0] rfl ?_
    refine j_aload_n (pc := 483) C dL_law_483 2 rfl ?_
    refine j_aload_n (pc := 484) C dL_law_484 0 rfl ?_
    refine j_iload (pc := 485) C dL_law_485 4 rfl ?_
    refine j_iconst (pc := 487) C dL_law_487 ?_
    refine j_iadd (pc := 488) C dL_law_488 ?_
    refine j_sld (pc := 489) C hX hbl hbA hn (by omega) (by omega) ea dL_law_489 ?_
    refine j_aload_n (pc := 490) C dL_law_490 0 rfl ?_
    refine j_iload (pc := 491) C dL_law_491 4 rfl ?_
    refine j_iconst (pc := 493) C dL_law_493 ?_
    refine j_iadd (pc := 494) C dL_law_494 ?_
    refine j_sld (pc := 495) C hX hbl hbA hn (by omega) (by omega) eb dL_law_495 ?_
    refine J.swap ?_
    refine j_callFI (pc := 496) C (As := [.int (zI a), .int (zI b)]) (rest := []) (kX1_draw_no1 l D k c1 c2 c3 th L K' Dm' S lo' hi' su' db' dy li so sp X ke se a b (by omega) (by omega) ha hb (by omega)) [0, 1, 2] rfl (cwV 2 C.2.2.2.2.1 gL_law_X1_draw rfl rfl rfl (by decide +kernel) ⟨Nat.le_of_ble_eq_true rfl, Nat.le_of_ble_eq_true rfl⟩) 0 (ci := 1) rfl rfl rfl dL_law_496 rfl rfl (Nat.le_of_ble_eq_true rfl) ⟨by omega, by omega⟩ ?_
    refine j_istore (pc := 499) C dL_law_499 (by decide) [1, 2, 3, 4, 5, 6, 0] rfl ?_
    refine j_aload_n (pc := 501) C dL_law_501 2 rfl ?_
    refine j_callFI (pc := 502) C (As := []) (rest := []) (kX1_thrown l D k c1 c2 c3 _ _ _ _ _ _ _ _ _ _ _ _ _ _ _ _) [0, 1, 2] rfl (cwV 0 C.2.2.2.2.1 gL_law_X1_thrown rfl rfl rfl (by decide +kernel) ⟨Nat.le_of_ble_eq_true rfl, Nat.le_of_ble_eq_true rfl⟩) 0 (ci := 1) rfl rfl rfl dL_law_502 rfl rfl (Nat.le_of_ble_eq_true rfl) ⟨by omega, by omega⟩ ?_
    refine j_iload (pc := 505) C dL_law_505 5 rfl ?_
    refine j_icmp_eq (pc := 507) C 512 (a := 1) (b := 1) dL_law_507 (by decide) ⟨by decide, by decide⟩ ⟨by decide, by decide⟩ (fun _ => ?_) (fun q => absurd rfl q)
    refine j_iload (pc := 512) C dL_law_512 5 rfl ?_
    refine j_if_ne (pc := 514) C 529 dL_law_514 (by decide) ⟨by decide, by decide⟩ (fun _ => ?_) (fun q => absurd q (by decide))
    refine j_goto (pc := 529) C 1713 dL_law_529 (by decide) ?_
    refine J.swap ?_
    refine J.pick [0, 1, 2, 3, 4] rfl ?_
    refine J.widen (k := cells + 1) (n := slots + 9) (by omega) (by omega) (kont _ ?_)
    exact ⟨_, _, _, _, _, _, _, _, _, _, _, _, _, _, _, _, _, _, _, _, _, _, _, _, _, _, rfl, r.up⟩
  by_cases hq1 : S < 16
  case neg =>
    refine j_aload_n (pc := 464) C dL_law_464 1 rfl ?_
    refine j_aload_n (pc := 465) C dL_law_465 0 rfl ?_
    refine j_iload (pc := 466) C dL_law_466 4 rfl ?_
    refine j_iconst (pc := 468) C dL_law_468 ?_
    refine j_iadd (pc := 469) C dL_law_469 ?_
    refine j_sld (pc := 470) C hX hbl hbA hn (by omega) (by omega) ea dL_law_470 ?_
    refine j_aload_n (pc := 471) C dL_law_471 0 rfl ?_
    refine j_iload (pc := 472) C dL_law_472 4 rfl ?_
    refine j_iconst (pc := 474) C dL_law_474 ?_
    refine j_iadd (pc := 475) C dL_law_475 ?_
    refine j_sld (pc := 476) C hX hbl hbA hn (by omega) (by omega) eb dL_law_476 ?_
    refine j_aload_n (pc := 477) C dL_law_477 3 rfl ?_
    refine j_callSIX (pc := 478) C htr hx (As := [.ref (h 0), .int (zI a), .int (zI b), .ref o9]) (rest := []) rfl (kL_draw_x2 l D h c1 c2 c3 K Dm L lo hi su db S dy li so sp tu ah M o9 f9 a b (by omega) (by omega) (by omega) (by omega) (by omega)) (vx_cwSW 4 C.2.2.2.2.1 gL_law_L_draw rfl rfl rfl (by decide +kernel) ⟨Nat.le_of_ble_eq_true rfl, Nat.le_of_ble_eq_true rfl⟩) dL_law_478 rfl rfl (Nat.le_of_ble_eq_true rfl) ⟨by omega, by omega⟩ ?_
    refine j_istore (pc := 481) C dL_law_481 (by decide) [1, 2, 3, 4, 5, 0] rfl ?_
    refine j_aload_n (pc := 483) C dL_law_483 2 rfl ?_
    refine j_aload_n (pc := 484) C dL_law_484 0 rfl ?_
    refine j_iload (pc := 485) C dL_law_485 4 rfl ?_
    refine j_iconst (pc := 487) C dL_law_487 ?_
    refine j_iadd (pc := 488) C dL_law_488 ?_
    refine j_sld (pc := 489) C hX hbl hbA hn (by omega) (by omega) ea dL_law_489 ?_
    refine j_aload_n (pc := 490) C dL_law_490 0 rfl ?_
    refine j_iload (pc := 491) C dL_law_491 4 rfl ?_
    refine j_iconst (pc := 493) C dL_law_493 ?_
    refine j_iadd (pc := 494) C dL_law_494 ?_
    refine j_sld (pc := 495) C hX hbl hbA hn (by omega) (by omega) eb dL_law_495 ?_
    refine J.swap ?_
    refine j_callFI (pc := 496) C (As := [.int (zI a), .int (zI b)]) (rest := []) (kX1_draw_no2 l D k c1 c2 c3 th L K' Dm' S lo' hi' su' db' dy li so sp X ke se a b (by omega) (by omega) (by omega) (by omega) (by omega)) [0, 1, 2] rfl (cwV 2 C.2.2.2.2.1 gL_law_X1_draw rfl rfl rfl (by decide +kernel) ⟨Nat.le_of_ble_eq_true rfl, Nat.le_of_ble_eq_true rfl⟩) 0 (ci := 1) rfl rfl rfl dL_law_496 rfl rfl (Nat.le_of_ble_eq_true rfl) ⟨by omega, by omega⟩ ?_
    refine j_istore (pc := 499) C dL_law_499 (by decide) [1, 2, 3, 4, 5, 6, 0] rfl ?_
    refine j_aload_n (pc := 501) C dL_law_501 2 rfl ?_
    refine j_callFI (pc := 502) C (As := []) (rest := []) (kX1_thrown l D k c1 c2 c3 _ _ _ _ _ _ _ _ _ _ _ _ _ _ _ _) [0, 1, 2] rfl (cwV 0 C.2.2.2.2.1 gL_law_X1_thrown rfl rfl rfl (by decide +kernel) ⟨Nat.le_of_ble_eq_true rfl, Nat.le_of_ble_eq_true rfl⟩) 0 (ci := 1) rfl rfl rfl dL_law_502 rfl rfl (Nat.le_of_ble_eq_true rfl) ⟨by omega, by omega⟩ ?_
    refine j_iload (pc := 505) C dL_law_505 5 rfl ?_
    refine j_icmp_eq (pc := 507) C 512 (a := 2) (b := 2) dL_law_507 (by decide) ⟨by decide, by decide⟩ ⟨by decide, by decide⟩ (fun _ => ?_) (fun q => absurd rfl q)
    refine j_iload (pc := 512) C dL_law_512 5 rfl ?_
    refine j_if_ne (pc := 514) C 529 dL_law_514 (by decide) ⟨by decide, by decide⟩ (fun _ => ?_) (fun q => absurd q (by decide))
    refine j_goto (pc := 529) C 1713 dL_law_529 (by decide) ?_
    refine J.swap ?_
    refine J.pick [0, 1, 2, 3, 4] rfl ?_
    refine J.widen (k := cells + 1) (n := slots + 9) (by omega) (by omega) (kont _ ?_)
    exact ⟨_, _, _, _, _, _, _, _, _, _, _, _, _, _, _, _, _, _, _, _, _, _, _, _, _, _, rfl, r.up⟩
  refine j_aload_n (pc := 464) C dL_law_464 1 rfl ?_
  refine j_aload_n (pc := 465) C dL_law_465 0 rfl ?_
  refine j_iload (pc := 466) C dL_law_466 4 rfl ?_
  refine j_iconst (pc := 468) C dL_law_468 ?_
  refine j_iadd (pc := 469) C dL_law_469 ?_
  refine j_sld (pc := 470) C hX hbl hbA hn (by omega) (by omega) ea dL_law_470 ?_
  refine j_aload_n (pc := 471) C dL_law_471 0 rfl ?_
  refine j_iload (pc := 472) C dL_law_472 4 rfl ?_
  refine j_iconst (pc := 474) C dL_law_474 ?_
  refine j_iadd (pc := 475) C dL_law_475 ?_
  refine j_sld (pc := 476) C hX hbl hbA hn (by omega) (by omega) eb dL_law_476 ?_
  refine j_aload_n (pc := 477) C dL_law_477 3 rfl ?_
  refine j_callSIX (pc := 478) C htr hx (As := [.ref (h 0), .int (zI a), .int (zI b), .ref o9]) (rest := []) rfl (kL_draw l D h c1 c2 c3 K Dm L lo hi su db S dy li so sp tu ah M o9 f9 a b (by omega) (by omega) (by omega) (by omega) (by omega) (by omega)) (vx_cwSW 4 C.2.2.2.2.1 gL_law_L_draw rfl rfl rfl (by decide +kernel) ⟨Nat.le_of_ble_eq_true rfl, Nat.le_of_ble_eq_true rfl⟩) dL_law_478 rfl rfl (Nat.le_of_ble_eq_true rfl) ⟨by omega, by omega⟩ ?_
  refine j_istore (pc := 481) C dL_law_481 (by decide) [1, 2, 3, 4, 5, 0] rfl ?_
  refine j_aload_n (pc := 483) C dL_law_483 2 rfl ?_
  refine j_aload_n (pc := 484) C dL_law_484 0 rfl ?_
  refine j_iload (pc := 485) C dL_law_485 4 rfl ?_
  refine j_iconst (pc := 487) C dL_law_487 ?_
  refine j_iadd (pc := 488) C dL_law_488 ?_
  refine j_sld (pc := 489) C hX hbl hbA hn (by omega) (by omega) ea dL_law_489 ?_
  refine j_aload_n (pc := 490) C dL_law_490 0 rfl ?_
  refine j_iload (pc := 491) C dL_law_491 4 rfl ?_
  refine j_iconst (pc := 493) C dL_law_493 ?_
  refine j_iadd (pc := 494) C dL_law_494 ?_
  refine j_sld (pc := 495) C hX hbl hbA hn (by omega) (by omega) eb dL_law_495 ?_
  refine J.swap ?_
  refine j_callFI (pc := 496) C (As := [.int (zI a), .int (zI b)]) (rest := []) (kX1_draw l D k c1 c2 c3 th L K' Dm' S lo' hi' su' db' dy li so sp X ke se a b (by omega) (by omega) (by omega) (by omega) (by omega) (by omega)) [0, 1, 2] rfl (cwV 2 C.2.2.2.2.1 gL_law_X1_draw rfl rfl rfl (by decide +kernel) ⟨Nat.le_of_ble_eq_true rfl, Nat.le_of_ble_eq_true rfl⟩) 0 (ci := 1) rfl rfl rfl dL_law_496 rfl rfl (Nat.le_of_ble_eq_true rfl) ⟨by omega, by omega⟩ ?_
  refine j_istore (pc := 499) C dL_law_499 (by decide) [1, 2, 3, 4, 5, 6, 0] rfl ?_
  refine j_aload_n (pc := 501) C dL_law_501 2 rfl ?_
  refine j_callFI (pc := 502) C (As := []) (rest := []) (kX1_thrown l D k c1 c2 c3 _ _ _ _ _ _ _ _ _ _ _ _ _ _ _ _) [0, 1, 2] rfl (cwV 0 C.2.2.2.2.1 gL_law_X1_thrown rfl rfl rfl (by decide +kernel) ⟨Nat.le_of_ble_eq_true rfl, Nat.le_of_ble_eq_true rfl⟩) 0 (ci := 1) rfl rfl rfl dL_law_502 rfl rfl (Nat.le_of_ble_eq_true rfl) ⟨by omega, by omega⟩ ?_
  refine j_iload (pc := 505) C dL_law_505 5 rfl ?_
  refine j_icmp_eq (pc := 507) C 512 (a := 0) (b := 0) dL_law_507 (by decide) ⟨by decide, by decide⟩ ⟨by decide, by decide⟩ (fun _ => ?_) (fun q => absurd rfl q)
  refine j_iload (pc := 512) C dL_law_512 5 rfl ?_
  refine j_if_ne (pc := 514) C 529 dL_law_514 (by decide) ⟨by decide, by decide⟩ (fun q => absurd rfl q) (fun _ => ?_)
  refine j_aload_n (pc := 517) C dL_law_517 3 rfl ?_
  refine j_iconst (pc := 518) C dL_law_518 ?_
  refine j_lald (pc := 519) C 33 2 rfl rfl (by decide) (by decide) dL_law_519 ?_
  refine j_iload (pc := 520) C dL_law_520 6 rfl ?_
  refine j_i2l (pc := 522) C dL_law_522 ?_
  refine j_lcmpE (pc := 523) C (lw_eq (r.zse a (b + 1) (by omega) (by omega))) dL_law_523 ?_
  refine j_if_eq (pc := 524) C 529 dL_law_524 (by decide) ⟨by decide, by decide⟩ (fun _ => ?_) (fun q => absurd rfl q)
  refine j_goto (pc := 529) C 1713 dL_law_529 (by decide) ?_
  refine J.swap ?_
  refine J.pick [0, 1, 2, 3, 4] rfl ?_
  refine J.widen (k := cells + 1) (n := slots + 9) (by omega) (by omega) (kont _ ?_)
  exact ⟨_, _, _, _, _, _, _, _, _, _, _, _, _, _, _, _, _, _, _, _, _, _, _, _, _, _, rfl, r.draw t0 a b (by omega) (by omega) (by omega) (by omega)⟩
set_option maxHeartbeats 4000000 in
set_option maxRecDepth 100000 in
theorem lw_throwAway {p : Program} {l : Launch} {e : Env} {s : State} {m : MethodId} {args : Array Value} {below : List Frame} {meth : Method} {c : Code} {D : va_G} {A : Nat → Prop} {cells slots : Nat} {Q : State → Prop} {c1 c2 c3 : ClassId} {h k : Nat → Nat} {o9 sb n : Nat} {xs : Nat → Int32} (C : GC p s m args meth c cL_law 9 RL wsL_law D (tyS c1 c2 c3) A) (htr : l.stackTraces = false) (hx : xF A s s.heap) (hX : va_X sb n xs s s.heap) (hbl : sb < s.heap.size) (hbA : ¬ A sb) {i : Int} (i0 : 0 ≤ i) (i1 : i + 2 < n) (hn : n ≤ 1536) (hcl : cells + 1 ≤ room_1.cells) (hsl : slots + 9 ≤ room_1.slots) {t : Int} (t0 : 0 ≤ t) (t1 : t < 512) {K Dm : Int → Int} {L : Int} {lo hi su db : Int → Int} {S dy li so sp : Int} {tu ah : Int → Int} {M : Int → Int → Int} {f9 : Nat → Int64} {th : Int} {K' Dm' lo' hi' su' db' : Int → Int} {X : Int → Int → Int} {ke se : Int → Int} (r : Rel t K Dm L lo hi su db S li K' Dm' lo' hi' su' db') (kont : ∀ w, LI (t + 1) c1 c2 c3 h k o9 w → J p l e room_1 s m args below meth c 9 D A (cells + 1) (slots + 9) Q w [(0, .ref sb), (1, .ref (h 0)), (2, .ref (k 0)), (3, .ref o9), (4, .int (zI i))] 1713 []) : J p l e room_1 s m args below meth c 9 D A cells slots Q ((wG h c1 c2 K Dm L lo hi su db S dy li so sp tu ah M ++ [(o9, .inl (c3, 1, .inr (.inl f9)))]) ++ wN k c1 th L K' Dm' S lo' hi' su' db' dy li so sp X ke se) [(0, .ref sb), (1, .ref (h 0)), (2, .ref (k 0)), (3, .ref o9), (4, .int (zI i))] 532 [] := by
  obtain ⟨⟨⟨hL0, hL⟩, ⟨hS0, hS⟩, hf, hs⟩, hd, hk, ⟨l0, l1⟩, eK, eD, e1, e2, e3, e4⟩ := id r
  obtain ⟨a, ea⟩ : ∃ a, (xs (i + 1).toNat).toInt = a := ⟨_, rfl⟩
  obtain ⟨b, eb⟩ : ∃ b, (xs (i + 2).toNat).toInt = b := ⟨_, rfl⟩
  have ha : zR a := by rw [← ea]; exact zR_of _
  have hb : zR b := by rw [← eb]; exact zR_of _
  obtain ⟨ha1, ha2⟩ := id ha
  obtain ⟨hb1, hb2⟩ := id hb
  by_cases hq0 : 0 ≤ a ∧ a < S
  case neg =>
    refine j_aload_n (pc := 532) C dL_law_532 1 rfl ?_
    refine j_aload_n (pc := 533) C dL_law_533 0 rfl ?_
    refine j_iload (pc := 534) C dL_law_534 4 rfl ?_
    refine j_iconst (pc := 536) C dL_law_536 ?_
    refine j_iadd (pc := 537) C dL_law_537 ?_
    refine j_sld (pc := 538) C hX hbl hbA hn (by omega) (by omega) ea dL_law_538 ?_
    refine j_aload_n (pc := 539) C dL_law_539 3 rfl ?_
    refine j_callSIX (pc := 540) C htr hx (As := [.ref (h 0), .int (zI a), .ref o9]) (rest := []) rfl (kL_throwAway_x1 l D h c1 c2 c3 K Dm L lo hi su db S dy li so sp tu ah M o9 f9 a (by omega) (by omega) ha (by omega)) (vx_cwSW 3 C.2.2.2.2.1 gL_law_L_throwAway rfl rfl rfl (by decide +kernel) ⟨Nat.le_of_ble_eq_true rfl, Nat.le_of_ble_eq_true rfl⟩) dL_law_540 rfl rfl (Nat.le_of_ble_eq_true rfl) ⟨by omega, by omega⟩ ?_
    refine j_istore (pc := 543) C dL_law_543 (by decide) [1, 2, 3, 4, 5, 0] rfl ?_
    refine j_aload_n (pc := 545) C dL_law_545 2 rfl ?_
    refine j_aload_n (pc := 546) C dL_law_546 0 rfl ?_
    refine j_iload (pc := 547) C dL_law_547 4 rfl ?_
    refine j_iconst (pc := 549) C dL_law_549 ?_
    refine j_iadd (pc := 550) C dL_law_550 ?_
    refine j_sld (pc := 551) C hX hbl hbA hn (by omega) (by omega) ea dL_law_551 ?_
    refine J.swap ?_
    refine j_callFI (pc := 552) C (As := [.int (zI a)]) (rest := []) (kX1_throwAway_no1 l D k c1 c2 c3 th L K' Dm' S lo' hi' su' db' dy li so sp X ke se a (by omega) (by omega) ha (by omega)) [0, 1, 2] rfl (cwV 1 C.2.2.2.2.1 gL_law_X1_throwAway rfl rfl rfl (by decide +kernel) ⟨Nat.le_of_ble_eq_true rfl, Nat.le_of_ble_eq_true rfl⟩) 0 (ci := 1) rfl rfl rfl dL_law_552 rfl rfl (Nat.le_of_ble_eq_true rfl) ⟨by omega, by omega⟩ ?_
    refine j_istore (pc := 555) C dL_law_555 (by decide) [1, 2, 3, 4, 5, 6, 0] rfl ?_
    refine j_aload_n (pc := 557) C dL_law_557 2 rfl ?_
    refine j_callFI (pc := 558) C (As := []) (rest := []) (kX1_thrown l D k c1 c2 c3 _ _ _ _ _ _ _ _ _ _ _ _ _ _ _ _) [0, 1, 2] rfl (cwV 0 C.2.2.2.2.1 gL_law_X1_thrown rfl rfl rfl (by decide +kernel) ⟨Nat.le_of_ble_eq_true rfl, Nat.le_of_ble_eq_true rfl⟩) 0 (ci := 1) rfl rfl rfl dL_law_558 rfl rfl (Nat.le_of_ble_eq_true rfl) ⟨by omega, by omega⟩ ?_
    refine j_iload (pc := 561) C dL_law_561 5 rfl ?_
    refine j_icmp_eq (pc := 563) C 568 (a := 1) (b := 1) dL_law_563 (by decide) ⟨by decide, by decide⟩ ⟨by decide, by decide⟩ (fun _ => ?_) (fun q => absurd rfl q)
    refine j_iload (pc := 568) C dL_law_568 5 rfl ?_
    refine j_if_ne (pc := 570) C 585 dL_law_570 (by decide) ⟨by decide, by decide⟩ (fun _ => ?_) (fun q => absurd q (by decide))
    refine j_goto (pc := 585) C 1713 dL_law_585 (by decide) ?_
    refine J.swap ?_
    refine J.pick [0, 1, 2, 3, 4] rfl ?_
    refine J.widen (k := cells + 1) (n := slots + 9) (by omega) (by omega) (kont _ ?_)
    exact ⟨_, _, _, _, _, _, _, _, _, _, _, _, _, _, _, _, _, _, _, _, _, _, _, _, _, _, rfl, r.up⟩
  refine j_aload_n (pc := 532) C dL_law_532 1 rfl ?_
  refine j_aload_n (pc := 533) C dL_law_533 0 rfl ?_
  refine j_iload (pc := 534) C dL_law_534 4 rfl ?_
  refine j_iconst (pc := 536) C dL_law_536 ?_
  refine j_iadd (pc := 537) C dL_law_537 ?_
  refine j_sld (pc := 538) C hX hbl hbA hn (by omega) (by omega) ea dL_law_538 ?_
  refine j_aload_n (pc := 539) C dL_law_539 3 rfl ?_
  refine j_callSIX (pc := 540) C htr hx (As := [.ref (h 0), .int (zI a), .ref o9]) (rest := []) rfl (kL_throwAway l D h c1 c2 c3 K Dm L lo hi su db S dy li so sp tu ah M o9 f9 a (by omega) (by omega) (by omega)) (vx_cwSW 3 C.2.2.2.2.1 gL_law_L_throwAway rfl rfl rfl (by decide +kernel) ⟨Nat.le_of_ble_eq_true rfl, Nat.le_of_ble_eq_true rfl⟩) dL_law_540 rfl rfl (Nat.le_of_ble_eq_true rfl) ⟨by omega, by omega⟩ ?_
  refine j_istore (pc := 543) C dL_law_543 (by decide) [1, 2, 3, 4, 5, 0] rfl ?_
  refine j_aload_n (pc := 545) C dL_law_545 2 rfl ?_
  refine j_aload_n (pc := 546) C dL_law_546 0 rfl ?_
  refine j_iload (pc := 547) C dL_law_547 4 rfl ?_
  refine j_iconst (pc := 549) C dL_law_549 ?_
  refine j_iadd (pc := 550) C dL_law_550 ?_
  refine j_sld (pc := 551) C hX hbl hbA hn (by omega) (by omega) ea dL_law_551 ?_
  refine J.swap ?_
  refine j_callFI (pc := 552) C (As := [.int (zI a)]) (rest := []) (kX1_throwAway l D k c1 c2 c3 th L K' Dm' S lo' hi' su' db' dy li so sp X ke se a (by omega) (by omega) (by omega)) [0, 1, 2] rfl (cwV 1 C.2.2.2.2.1 gL_law_X1_throwAway rfl rfl rfl (by decide +kernel) ⟨Nat.le_of_ble_eq_true rfl, Nat.le_of_ble_eq_true rfl⟩) 0 (ci := 1) rfl rfl rfl dL_law_552 rfl rfl (Nat.le_of_ble_eq_true rfl) ⟨by omega, by omega⟩ ?_
  refine j_istore (pc := 555) C dL_law_555 (by decide) [1, 2, 3, 4, 5, 6, 0] rfl ?_
  refine j_aload_n (pc := 557) C dL_law_557 2 rfl ?_
  refine j_callFI (pc := 558) C (As := []) (rest := []) (kX1_thrown l D k c1 c2 c3 _ _ _ _ _ _ _ _ _ _ _ _ _ _ _ _) [0, 1, 2] rfl (cwV 0 C.2.2.2.2.1 gL_law_X1_thrown rfl rfl rfl (by decide +kernel) ⟨Nat.le_of_ble_eq_true rfl, Nat.le_of_ble_eq_true rfl⟩) 0 (ci := 1) rfl rfl rfl dL_law_558 rfl rfl (Nat.le_of_ble_eq_true rfl) ⟨by omega, by omega⟩ ?_
  refine j_iload (pc := 561) C dL_law_561 5 rfl ?_
  refine j_icmp_eq (pc := 563) C 568 (a := 0) (b := 0) dL_law_563 (by decide) ⟨by decide, by decide⟩ ⟨by decide, by decide⟩ (fun _ => ?_) (fun q => absurd rfl q)
  refine j_iload (pc := 568) C dL_law_568 5 rfl ?_
  refine j_if_ne (pc := 570) C 585 dL_law_570 (by decide) ⟨by decide, by decide⟩ (fun q => absurd rfl q) (fun _ => ?_)
  refine j_aload_n (pc := 573) C dL_law_573 3 rfl ?_
  refine j_iconst (pc := 574) C dL_law_574 ?_
  refine j_lald (pc := 575) C 33 2 rfl rfl (by decide) (by decide) dL_law_575 ?_
  refine j_iload (pc := 576) C dL_law_576 6 rfl ?_
  refine j_i2l (pc := 578) C dL_law_578 ?_
  refine j_lcmpE (pc := 579) C (lw_eq rfl) dL_law_579 ?_
  refine j_if_eq (pc := 580) C 585 dL_law_580 (by decide) ⟨by decide, by decide⟩ (fun _ => ?_) (fun q => absurd rfl q)
  refine j_goto (pc := 585) C 1713 dL_law_585 (by decide) ?_
  refine J.swap ?_
  refine J.pick [0, 1, 2, 3, 4] rfl ?_
  refine J.widen (k := cells + 1) (n := slots + 9) (by omega) (by omega) (kont _ ?_)
  exact ⟨_, _, _, _, _, _, _, _, _, _, _, _, _, _, _, _, _, _, _, _, _, _, _, _, _, _, rfl, r.throwAway a (by omega) (by omega)⟩
set_option maxHeartbeats 4000000 in
set_option maxRecDepth 100000 in
theorem lw_lowestOf {p : Program} {l : Launch} {e : Env} {s : State} {m : MethodId} {args : Array Value} {below : List Frame} {meth : Method} {c : Code} {D : va_G} {A : Nat → Prop} {cells slots : Nat} {Q : State → Prop} {c1 c2 c3 : ClassId} {h k : Nat → Nat} {o9 sb n : Nat} {xs : Nat → Int32} (C : GC p s m args meth c cL_law 9 RL wsL_law D (tyS c1 c2 c3) A) (htr : l.stackTraces = false) (hx : xF A s s.heap) (hX : va_X sb n xs s s.heap) (hbl : sb < s.heap.size) (hbA : ¬ A sb) {i : Int} (i0 : 0 ≤ i) (i1 : i + 2 < n) (hn : n ≤ 1536) (hcl : cells + 1 ≤ room_1.cells) (hsl : slots + 9 ≤ room_1.slots) {t : Int} (t0 : 0 ≤ t) (t1 : t < 512) {K Dm : Int → Int} {L : Int} {lo hi su db : Int → Int} {S dy li so sp : Int} {tu ah : Int → Int} {M : Int → Int → Int} {f9 : Nat → Int64} {th : Int} {K' Dm' lo' hi' su' db' : Int → Int} {X : Int → Int → Int} {ke se : Int → Int} (r : Rel t K Dm L lo hi su db S li K' Dm' lo' hi' su' db') (kont : ∀ w, LI (t + 1) c1 c2 c3 h k o9 w → J p l e room_1 s m args below meth c 9 D A (cells + 1) (slots + 9) Q w [(0, .ref sb), (1, .ref (h 0)), (2, .ref (k 0)), (3, .ref o9), (4, .int (zI i))] 1713 []) : J p l e room_1 s m args below meth c 9 D A cells slots Q ((wG h c1 c2 K Dm L lo hi su db S dy li so sp tu ah M ++ [(o9, .inl (c3, 1, .inr (.inl f9)))]) ++ wN k c1 th L K' Dm' S lo' hi' su' db' dy li so sp X ke se) [(0, .ref sb), (1, .ref (h 0)), (2, .ref (k 0)), (3, .ref o9), (4, .int (zI i))] 601 [] := by
  obtain ⟨⟨⟨hL0, hL⟩, ⟨hS0, hS⟩, hf, hs⟩, hd, hk, ⟨l0, l1⟩, eK, eD, e1, e2, e3, e4⟩ := id r
  obtain ⟨a, ea⟩ : ∃ a, (xs (i + 1).toNat).toInt = a := ⟨_, rfl⟩
  obtain ⟨b, eb⟩ : ∃ b, (xs (i + 2).toNat).toInt = b := ⟨_, rfl⟩
  have ha : zR a := by rw [← ea]; exact zR_of _
  have hb : zR b := by rw [← eb]; exact zR_of _
  obtain ⟨ha1, ha2⟩ := id ha
  obtain ⟨hb1, hb2⟩ := id hb
  by_cases hq0 : 0 ≤ a ∧ a < S
  case neg =>
    refine j_aload_n (pc := 601) C dL_law_601 1 rfl ?_
    refine j_aload_n (pc := 602) C dL_law_602 0 rfl ?_
    refine j_iload (pc := 603) C dL_law_603 4 rfl ?_
    refine j_iconst (pc := 605) C dL_law_605 ?_
    refine j_iadd (pc := 606) C dL_law_606 ?_
    refine j_sld (pc := 607) C hX hbl hbA hn (by omega) (by omega) ea dL_law_607 ?_
    refine j_aload_n (pc := 608) C dL_law_608 3 rfl ?_
    refine j_callSIX (pc := 609) C htr hx (As := [.ref (h 0), .int (zI a), .ref o9]) (rest := []) rfl (kL_lowestOf_x1 l D h c1 c2 c3 K Dm L lo hi su db S dy li so sp tu ah M o9 f9 a (by omega) (by omega) ha (by omega)) (vx_cwSW 3 C.2.2.2.2.1 gL_law_L_lowestOf rfl rfl rfl (by decide +kernel) ⟨Nat.le_of_ble_eq_true rfl, Nat.le_of_ble_eq_true rfl⟩) dL_law_609 rfl rfl (Nat.le_of_ble_eq_true rfl) ⟨by omega, by omega⟩ ?_
    refine j_istore (pc := 612) C dL_law_612 (by decide) [1, 2, 3, 4, 5, 0] rfl ?_
    refine j_aload_n (pc := 614) C dL_law_614 2 rfl ?_
    refine j_aload_n (pc := 615) C dL_law_615 0 rfl ?_
    refine j_iload (pc := 616) C dL_law_616 4 rfl ?_
    refine j_iconst (pc := 618) C dL_law_618 ?_
    refine j_iadd (pc := 619) C dL_law_619 ?_
    refine j_sld (pc := 620) C hX hbl hbA hn (by omega) (by omega) ea dL_law_620 ?_
    refine J.swap ?_
    refine j_callFI (pc := 621) C (As := [.int (zI a)]) (rest := []) (kX1_lowestOf_no1 l D k c1 c2 c3 th L K' Dm' S lo' hi' su' db' dy li so sp X ke se a (by omega) (by omega) ha (by omega)) [0, 1, 2] rfl (cwV 1 C.2.2.2.2.1 gL_law_X1_lowestOf rfl rfl rfl (by decide +kernel) ⟨Nat.le_of_ble_eq_true rfl, Nat.le_of_ble_eq_true rfl⟩) 0 (ci := 1) rfl rfl rfl dL_law_621 rfl rfl (Nat.le_of_ble_eq_true rfl) ⟨by omega, by omega⟩ ?_
    refine j_istore (pc := 624) C dL_law_624 (by decide) [1, 2, 3, 4, 5, 6, 0] rfl ?_
    refine j_aload_n (pc := 626) C dL_law_626 2 rfl ?_
    refine j_callFI (pc := 627) C (As := []) (rest := []) (kX1_thrown l D k c1 c2 c3 _ _ _ _ _ _ _ _ _ _ _ _ _ _ _ _) [0, 1, 2] rfl (cwV 0 C.2.2.2.2.1 gL_law_X1_thrown rfl rfl rfl (by decide +kernel) ⟨Nat.le_of_ble_eq_true rfl, Nat.le_of_ble_eq_true rfl⟩) 0 (ci := 1) rfl rfl rfl dL_law_627 rfl rfl (Nat.le_of_ble_eq_true rfl) ⟨by omega, by omega⟩ ?_
    refine j_iload (pc := 630) C dL_law_630 5 rfl ?_
    refine j_icmp_eq (pc := 632) C 637 (a := 1) (b := 1) dL_law_632 (by decide) ⟨by decide, by decide⟩ ⟨by decide, by decide⟩ (fun _ => ?_) (fun q => absurd rfl q)
    refine j_iload (pc := 637) C dL_law_637 5 rfl ?_
    refine j_if_ne (pc := 639) C 654 dL_law_639 (by decide) ⟨by decide, by decide⟩ (fun _ => ?_) (fun q => absurd q (by decide))
    refine j_goto (pc := 654) C 1713 dL_law_654 (by decide) ?_
    refine J.swap ?_
    refine J.pick [0, 1, 2, 3, 4] rfl ?_
    refine J.widen (k := cells + 1) (n := slots + 9) (by omega) (by omega) (kont _ ?_)
    exact ⟨_, _, _, _, _, _, _, _, _, _, _, _, _, _, _, _, _, _, _, _, _, _, _, _, _, _, rfl, r.up⟩
  refine j_aload_n (pc := 601) C dL_law_601 1 rfl ?_
  refine j_aload_n (pc := 602) C dL_law_602 0 rfl ?_
  refine j_iload (pc := 603) C dL_law_603 4 rfl ?_
  refine j_iconst (pc := 605) C dL_law_605 ?_
  refine j_iadd (pc := 606) C dL_law_606 ?_
  refine j_sld (pc := 607) C hX hbl hbA hn (by omega) (by omega) ea dL_law_607 ?_
  refine j_aload_n (pc := 608) C dL_law_608 3 rfl ?_
  refine j_callSIX (pc := 609) C htr hx (As := [.ref (h 0), .int (zI a), .ref o9]) (rest := []) rfl (kL_lowestOf l D h c1 c2 c3 K Dm L lo hi su db S dy li so sp tu ah M o9 f9 a (by omega) (by omega) (by omega)) (vx_cwSW 3 C.2.2.2.2.1 gL_law_L_lowestOf rfl rfl rfl (by decide +kernel) ⟨Nat.le_of_ble_eq_true rfl, Nat.le_of_ble_eq_true rfl⟩) dL_law_609 rfl rfl (Nat.le_of_ble_eq_true rfl) ⟨by omega, by omega⟩ ?_
  refine j_istore (pc := 612) C dL_law_612 (by decide) [1, 2, 3, 4, 5, 0] rfl ?_
  refine j_aload_n (pc := 614) C dL_law_614 2 rfl ?_
  refine j_aload_n (pc := 615) C dL_law_615 0 rfl ?_
  refine j_iload (pc := 616) C dL_law_616 4 rfl ?_
  refine j_iconst (pc := 618) C dL_law_618 ?_
  refine j_iadd (pc := 619) C dL_law_619 ?_
  refine j_sld (pc := 620) C hX hbl hbA hn (by omega) (by omega) ea dL_law_620 ?_
  refine J.swap ?_
  refine j_callFI (pc := 621) C (As := [.int (zI a)]) (rest := []) (kX1_lowestOf l D k c1 c2 c3 th L K' Dm' S lo' hi' su' db' dy li so sp X ke se a (by omega) (by omega) (by omega)) [0, 1, 2] rfl (cwV 1 C.2.2.2.2.1 gL_law_X1_lowestOf rfl rfl rfl (by decide +kernel) ⟨Nat.le_of_ble_eq_true rfl, Nat.le_of_ble_eq_true rfl⟩) 0 (ci := 1) rfl rfl rfl dL_law_621 rfl rfl (Nat.le_of_ble_eq_true rfl) ⟨by omega, by omega⟩ ?_
  refine j_istore (pc := 624) C dL_law_624 (by decide) [1, 2, 3, 4, 5, 6, 0] rfl ?_
  refine j_aload_n (pc := 626) C dL_law_626 2 rfl ?_
  refine j_callFI (pc := 627) C (As := []) (rest := []) (kX1_thrown l D k c1 c2 c3 _ _ _ _ _ _ _ _ _ _ _ _ _ _ _ _) [0, 1, 2] rfl (cwV 0 C.2.2.2.2.1 gL_law_X1_thrown rfl rfl rfl (by decide +kernel) ⟨Nat.le_of_ble_eq_true rfl, Nat.le_of_ble_eq_true rfl⟩) 0 (ci := 1) rfl rfl rfl dL_law_627 rfl rfl (Nat.le_of_ble_eq_true rfl) ⟨by omega, by omega⟩ ?_
  refine j_iload (pc := 630) C dL_law_630 5 rfl ?_
  refine j_icmp_eq (pc := 632) C 637 (a := 0) (b := 0) dL_law_632 (by decide) ⟨by decide, by decide⟩ ⟨by decide, by decide⟩ (fun _ => ?_) (fun q => absurd rfl q)
  refine j_iload (pc := 637) C dL_law_637 5 rfl ?_
  refine j_if_ne (pc := 639) C 654 dL_law_639 (by decide) ⟨by decide, by decide⟩ (fun q => absurd rfl q) (fun _ => ?_)
  refine j_aload_n (pc := 642) C dL_law_642 3 rfl ?_
  refine j_iconst (pc := 643) C dL_law_643 ?_
  refine j_lald (pc := 644) C 33 2 rfl rfl (by decide) (by decide) dL_law_644 ?_
  refine j_iload (pc := 645) C dL_law_645 6 rfl ?_
  refine j_i2l (pc := 647) C dL_law_647 ?_
  refine j_lcmpE (pc := 648) C (lw_eq (e1 a (by omega) (by omega))) dL_law_648 ?_
  refine j_if_eq (pc := 649) C 654 dL_law_649 (by decide) ⟨by decide, by decide⟩ (fun _ => ?_) (fun q => absurd rfl q)
  refine j_goto (pc := 654) C 1713 dL_law_654 (by decide) ?_
  refine J.swap ?_
  refine J.pick [0, 1, 2, 3, 4] rfl ?_
  refine J.widen (k := cells + 1) (n := slots + 9) (by omega) (by omega) (kont _ ?_)
  exact ⟨_, _, _, _, _, _, _, _, _, _, _, _, _, _, _, _, _, _, _, _, _, _, _, _, _, _, rfl, r.up⟩
set_option maxHeartbeats 4000000 in
set_option maxRecDepth 100000 in
theorem lw_highestOf {p : Program} {l : Launch} {e : Env} {s : State} {m : MethodId} {args : Array Value} {below : List Frame} {meth : Method} {c : Code} {D : va_G} {A : Nat → Prop} {cells slots : Nat} {Q : State → Prop} {c1 c2 c3 : ClassId} {h k : Nat → Nat} {o9 sb n : Nat} {xs : Nat → Int32} (C : GC p s m args meth c cL_law 9 RL wsL_law D (tyS c1 c2 c3) A) (htr : l.stackTraces = false) (hx : xF A s s.heap) (hX : va_X sb n xs s s.heap) (hbl : sb < s.heap.size) (hbA : ¬ A sb) {i : Int} (i0 : 0 ≤ i) (i1 : i + 2 < n) (hn : n ≤ 1536) (hcl : cells + 1 ≤ room_1.cells) (hsl : slots + 9 ≤ room_1.slots) {t : Int} (t0 : 0 ≤ t) (t1 : t < 512) {K Dm : Int → Int} {L : Int} {lo hi su db : Int → Int} {S dy li so sp : Int} {tu ah : Int → Int} {M : Int → Int → Int} {f9 : Nat → Int64} {th : Int} {K' Dm' lo' hi' su' db' : Int → Int} {X : Int → Int → Int} {ke se : Int → Int} (r : Rel t K Dm L lo hi su db S li K' Dm' lo' hi' su' db') (kont : ∀ w, LI (t + 1) c1 c2 c3 h k o9 w → J p l e room_1 s m args below meth c 9 D A (cells + 1) (slots + 9) Q w [(0, .ref sb), (1, .ref (h 0)), (2, .ref (k 0)), (3, .ref o9), (4, .int (zI i))] 1713 []) : J p l e room_1 s m args below meth c 9 D A cells slots Q ((wG h c1 c2 K Dm L lo hi su db S dy li so sp tu ah M ++ [(o9, .inl (c3, 1, .inr (.inl f9)))]) ++ wN k c1 th L K' Dm' S lo' hi' su' db' dy li so sp X ke se) [(0, .ref sb), (1, .ref (h 0)), (2, .ref (k 0)), (3, .ref o9), (4, .int (zI i))] 657 [] := by
  obtain ⟨⟨⟨hL0, hL⟩, ⟨hS0, hS⟩, hf, hs⟩, hd, hk, ⟨l0, l1⟩, eK, eD, e1, e2, e3, e4⟩ := id r
  obtain ⟨a, ea⟩ : ∃ a, (xs (i + 1).toNat).toInt = a := ⟨_, rfl⟩
  obtain ⟨b, eb⟩ : ∃ b, (xs (i + 2).toNat).toInt = b := ⟨_, rfl⟩
  have ha : zR a := by rw [← ea]; exact zR_of _
  have hb : zR b := by rw [← eb]; exact zR_of _
  obtain ⟨ha1, ha2⟩ := id ha
  obtain ⟨hb1, hb2⟩ := id hb
  by_cases hq0 : 0 ≤ a ∧ a < S
  case neg =>
    refine j_aload_n (pc := 657) C dL_law_657 1 rfl ?_
    refine j_aload_n (pc := 658) C dL_law_658 0 rfl ?_
    refine j_iload (pc := 659) C dL_law_659 4 rfl ?_
    refine j_iconst (pc := 661) C dL_law_661 ?_
    refine j_iadd (pc := 662) C dL_law_662 ?_
    refine j_sld (pc := 663) C hX hbl hbA hn (by omega) (by omega) ea dL_law_663 ?_
    refine j_aload_n (pc := 664) C dL_law_664 3 rfl ?_
    refine j_callSIX (pc := 665) C htr hx (As := [.ref (h 0), .int (zI a), .ref o9]) (rest := []) rfl (kL_highestOf_x1 l D h c1 c2 c3 K Dm L lo hi su db S dy li so sp tu ah M o9 f9 a (by omega) (by omega) ha (by omega)) (vx_cwSW 3 C.2.2.2.2.1 gL_law_L_highestOf rfl rfl rfl (by decide +kernel) ⟨Nat.le_of_ble_eq_true rfl, Nat.le_of_ble_eq_true rfl⟩) dL_law_665 rfl rfl (Nat.le_of_ble_eq_true rfl) ⟨by omega, by omega⟩ ?_
    refine j_istore (pc := 668) C dL_law_668 (by decide) [1, 2, 3, 4, 5, 0] rfl ?_
    refine j_aload_n (pc := 670) C dL_law_670 2 rfl ?_
    refine j_aload_n (pc := 671) C dL_law_671 0 rfl ?_
    refine j_iload (pc := 672) C dL_law_672 4 rfl ?_
    refine j_iconst (pc := 674) C dL_law_674 ?_
    refine j_iadd (pc := 675) C dL_law_675 ?_
    refine j_sld (pc := 676) C hX hbl hbA hn (by omega) (by omega) ea dL_law_676 ?_
    refine J.swap ?_
    refine j_callFI (pc := 677) C (As := [.int (zI a)]) (rest := []) (kX1_highestOf_no1 l D k c1 c2 c3 th L K' Dm' S lo' hi' su' db' dy li so sp X ke se a (by omega) (by omega) ha (by omega)) [0, 1, 2] rfl (cwV 1 C.2.2.2.2.1 gL_law_X1_highestOf rfl rfl rfl (by decide +kernel) ⟨Nat.le_of_ble_eq_true rfl, Nat.le_of_ble_eq_true rfl⟩) 0 (ci := 1) rfl rfl rfl dL_law_677 rfl rfl (Nat.le_of_ble_eq_true rfl) ⟨by omega, by omega⟩ ?_
    refine j_istore (pc := 680) C dL_law_680 (by decide) [1, 2, 3, 4, 5, 6, 0] rfl ?_
    refine j_aload_n (pc := 682) C dL_law_682 2 rfl ?_
    refine j_callFI (pc := 683) C (As := []) (rest := []) (kX1_thrown l D k c1 c2 c3 _ _ _ _ _ _ _ _ _ _ _ _ _ _ _ _) [0, 1, 2] rfl (cwV 0 C.2.2.2.2.1 gL_law_X1_thrown rfl rfl rfl (by decide +kernel) ⟨Nat.le_of_ble_eq_true rfl, Nat.le_of_ble_eq_true rfl⟩) 0 (ci := 1) rfl rfl rfl dL_law_683 rfl rfl (Nat.le_of_ble_eq_true rfl) ⟨by omega, by omega⟩ ?_
    refine j_iload (pc := 686) C dL_law_686 5 rfl ?_
    refine j_icmp_eq (pc := 688) C 693 (a := 1) (b := 1) dL_law_688 (by decide) ⟨by decide, by decide⟩ ⟨by decide, by decide⟩ (fun _ => ?_) (fun q => absurd rfl q)
    refine j_iload (pc := 693) C dL_law_693 5 rfl ?_
    refine j_if_ne (pc := 695) C 710 dL_law_695 (by decide) ⟨by decide, by decide⟩ (fun _ => ?_) (fun q => absurd q (by decide))
    refine j_goto (pc := 710) C 1713 dL_law_710 (by decide) ?_
    refine J.swap ?_
    refine J.pick [0, 1, 2, 3, 4] rfl ?_
    refine J.widen (k := cells + 1) (n := slots + 9) (by omega) (by omega) (kont _ ?_)
    exact ⟨_, _, _, _, _, _, _, _, _, _, _, _, _, _, _, _, _, _, _, _, _, _, _, _, _, _, rfl, r.up⟩
  refine j_aload_n (pc := 657) C dL_law_657 1 rfl ?_
  refine j_aload_n (pc := 658) C dL_law_658 0 rfl ?_
  refine j_iload (pc := 659) C dL_law_659 4 rfl ?_
  refine j_iconst (pc := 661) C dL_law_661 ?_
  refine j_iadd (pc := 662) C dL_law_662 ?_
  refine j_sld (pc := 663) C hX hbl hbA hn (by omega) (by omega) ea dL_law_663 ?_
  refine j_aload_n (pc := 664) C dL_law_664 3 rfl ?_
  refine j_callSIX (pc := 665) C htr hx (As := [.ref (h 0), .int (zI a), .ref o9]) (rest := []) rfl (kL_highestOf l D h c1 c2 c3 K Dm L lo hi su db S dy li so sp tu ah M o9 f9 a (by omega) (by omega) (by omega)) (vx_cwSW 3 C.2.2.2.2.1 gL_law_L_highestOf rfl rfl rfl (by decide +kernel) ⟨Nat.le_of_ble_eq_true rfl, Nat.le_of_ble_eq_true rfl⟩) dL_law_665 rfl rfl (Nat.le_of_ble_eq_true rfl) ⟨by omega, by omega⟩ ?_
  refine j_istore (pc := 668) C dL_law_668 (by decide) [1, 2, 3, 4, 5, 0] rfl ?_
  refine j_aload_n (pc := 670) C dL_law_670 2 rfl ?_
  refine j_aload_n (pc := 671) C dL_law_671 0 rfl ?_
  refine j_iload (pc := 672) C dL_law_672 4 rfl ?_
  refine j_iconst (pc := 674) C dL_law_674 ?_
  refine j_iadd (pc := 675) C dL_law_675 ?_
  refine j_sld (pc := 676) C hX hbl hbA hn (by omega) (by omega) ea dL_law_676 ?_
  refine J.swap ?_
  refine j_callFI (pc := 677) C (As := [.int (zI a)]) (rest := []) (kX1_highestOf l D k c1 c2 c3 th L K' Dm' S lo' hi' su' db' dy li so sp X ke se a (by omega) (by omega) (by omega)) [0, 1, 2] rfl (cwV 1 C.2.2.2.2.1 gL_law_X1_highestOf rfl rfl rfl (by decide +kernel) ⟨Nat.le_of_ble_eq_true rfl, Nat.le_of_ble_eq_true rfl⟩) 0 (ci := 1) rfl rfl rfl dL_law_677 rfl rfl (Nat.le_of_ble_eq_true rfl) ⟨by omega, by omega⟩ ?_
  refine j_istore (pc := 680) C dL_law_680 (by decide) [1, 2, 3, 4, 5, 6, 0] rfl ?_
  refine j_aload_n (pc := 682) C dL_law_682 2 rfl ?_
  refine j_callFI (pc := 683) C (As := []) (rest := []) (kX1_thrown l D k c1 c2 c3 _ _ _ _ _ _ _ _ _ _ _ _ _ _ _ _) [0, 1, 2] rfl (cwV 0 C.2.2.2.2.1 gL_law_X1_thrown rfl rfl rfl (by decide +kernel) ⟨Nat.le_of_ble_eq_true rfl, Nat.le_of_ble_eq_true rfl⟩) 0 (ci := 1) rfl rfl rfl dL_law_683 rfl rfl (Nat.le_of_ble_eq_true rfl) ⟨by omega, by omega⟩ ?_
  refine j_iload (pc := 686) C dL_law_686 5 rfl ?_
  refine j_icmp_eq (pc := 688) C 693 (a := 0) (b := 0) dL_law_688 (by decide) ⟨by decide, by decide⟩ ⟨by decide, by decide⟩ (fun _ => ?_) (fun q => absurd rfl q)
  refine j_iload (pc := 693) C dL_law_693 5 rfl ?_
  refine j_if_ne (pc := 695) C 710 dL_law_695 (by decide) ⟨by decide, by decide⟩ (fun q => absurd rfl q) (fun _ => ?_)
  refine j_aload_n (pc := 698) C dL_law_698 3 rfl ?_
  refine j_iconst (pc := 699) C dL_law_699 ?_
  refine j_lald (pc := 700) C 33 2 rfl rfl (by decide) (by decide) dL_law_700 ?_
  refine j_iload (pc := 701) C dL_law_701 6 rfl ?_
  refine j_i2l (pc := 703) C dL_law_703 ?_
  refine j_lcmpE (pc := 704) C (lw_eq (e2 a (by omega) (by omega))) dL_law_704 ?_
  refine j_if_eq (pc := 705) C 710 dL_law_705 (by decide) ⟨by decide, by decide⟩ (fun _ => ?_) (fun q => absurd rfl q)
  refine j_goto (pc := 710) C 1713 dL_law_710 (by decide) ?_
  refine J.swap ?_
  refine J.pick [0, 1, 2, 3, 4] rfl ?_
  refine J.widen (k := cells + 1) (n := slots + 9) (by omega) (by omega) (kont _ ?_)
  exact ⟨_, _, _, _, _, _, _, _, _, _, _, _, _, _, _, _, _, _, _, _, _, _, _, _, _, _, rfl, r.up⟩
