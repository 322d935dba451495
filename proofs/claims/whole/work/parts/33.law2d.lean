/-! ===== the law's cases, 4 ===== -/
set_option maxHeartbeats 4000000 in
set_option maxRecDepth 100000 in
theorem lw_sold {p : Program} {l : Launch} {e : Env} {s : State} {m : MethodId} {args : Array Value} {below : List Frame} {meth : Method} {c : Code} {D : va_G} {A : Nat → Prop} {cells slots : Nat} {Q : State → Prop} {c1 c2 c3 : ClassId} {h k : Nat → Nat} {o9 sb n : Nat} {xs : Nat → Int32} (C : GC p s m args meth c cL_law 9 RL wsL_law D (tyS c1 c2 c3) A) (htr : l.stackTraces = false) (hx : xF A s s.heap) (hX : va_X sb n xs s s.heap) (hbl : sb < s.heap.size) (hbA : ¬ A sb) {i : Int} (i0 : 0 ≤ i) (i1 : i + 2 < n) (hn : n ≤ 1536) (hcl : cells + 1 ≤ room_1.cells) (hsl : slots + 9 ≤ room_1.slots) {t : Int} (t0 : 0 ≤ t) (t1 : t < 512) {K Dm : Int → Int} {L : Int} {lo hi su db : Int → Int} {S dy li so sp : Int} {tu ah : Int → Int} {M : Int → Int → Int} {f9 : Nat → Int64} {th : Int} {K' Dm' lo' hi' su' db' : Int → Int} {X : Int → Int → Int} {ke se : Int → Int} (r : Rel t K Dm L lo hi su db S li K' Dm' lo' hi' su' db') (kont : ∀ w, LI (t + 1) c1 c2 c3 h k o9 w → J p l e room_1 s m args below meth c 9 D A (cells + 1) (slots + 9) Q w [(0, .ref sb), (1, .ref (h 0)), (2, .ref (k 0)), (3, .ref o9), (4, .int (zI i))] 1713 []) : J p l e room_1 s m args below meth c 9 D A cells slots Q ((wG h c1 c2 K Dm L lo hi su db S dy li so sp tu ah M ++ [(o9, .inl (c3, 1, .inr (.inl f9)))]) ++ wN k c1 th L K' Dm' S lo' hi' su' db' dy li so sp X ke se) [(0, .ref sb), (1, .ref (h 0)), (2, .ref (k 0)), (3, .ref o9), (4, .int (zI i))] 864 [] := by
  obtain ⟨⟨⟨hL0, hL⟩, ⟨hS0, hS⟩, hf, hs⟩, hd, hk, ⟨l0, l1⟩, eK, eD, e1, e2, e3, e4⟩ := id r
  obtain ⟨a, ea⟩ : ∃ a, (xs (i + 1).toNat).toInt = a := ⟨_, rfl⟩
  obtain ⟨b, eb⟩ : ∃ b, (xs (i + 2).toNat).toInt = b := ⟨_, rfl⟩
  have ha : zR a := by rw [← ea]; exact zR_of _
  have hb : zR b := by rw [← eb]; exact zR_of _
  obtain ⟨ha1, ha2⟩ := id ha
  obtain ⟨hb1, hb2⟩ := id hb
  refine j_aload_n (pc := 864) C dL_law_864 1 rfl ?_
  refine J.cast ?_ (List.append_assoc _ _ _) rfl rfl
  refine j_callFI (pc := 865) C (As := []) (rest := []) (kX0_sold l D h c1 c2 c3 K Dm L lo hi su db S dy li so sp tu ah M) [0, 1, 2] rfl (cwV 0 C.2.2.2.2.1 gL_law_X0_sold rfl rfl rfl (by decide +kernel) ⟨Nat.le_of_ble_eq_true rfl, Nat.le_of_ble_eq_true rfl⟩) 0 (ci := 0) rfl rfl rfl dL_law_865 rfl rfl (Nat.le_of_ble_eq_true rfl) ⟨by omega, by omega⟩ ?_
  refine j_aload_n (pc := 868) C dL_law_868 2 rfl ?_
  refine J.cast ?_ (List.append_assoc _ _ _).symm rfl rfl
  refine J.swap ?_
  refine j_callFI (pc := 869) C (As := []) (rest := [_]) (kX1_sold l D k c1 c2 c3 th L K' Dm' S lo' hi' su' db' dy li so sp X ke se) [0, 1, 2] rfl (cwV 0 C.2.2.2.2.1 gL_law_X1_sold rfl rfl rfl (by decide +kernel) ⟨Nat.le_of_ble_eq_true rfl, Nat.le_of_ble_eq_true rfl⟩) 0 (ci := 1) rfl rfl rfl dL_law_869 rfl rfl (Nat.le_of_ble_eq_true rfl) ⟨by omega, by omega⟩ ?_
  refine j_icmpE (pc := 872) C 1713 rfl dL_law_872 (by decide) ?_
  refine J.swap ?_
  refine J.widen (k := cells + 1) (n := slots + 9) (by omega) (by omega) (kont _ ?_)
  exact ⟨_, _, _, _, _, _, _, _, _, _, _, _, _, _, _, _, _, _, _, _, _, _, _, _, _, _, rfl, r.up⟩
set_option maxHeartbeats 4000000 in
set_option maxRecDepth 100000 in
theorem lw_spoilt {p : Program} {l : Launch} {e : Env} {s : State} {m : MethodId} {args : Array Value} {below : List Frame} {meth : Method} {c : Code} {D : va_G} {A : Nat → Prop} {cells slots : Nat} {Q : State → Prop} {c1 c2 c3 : ClassId} {h k : Nat → Nat} {o9 sb n : Nat} {xs : Nat → Int32} (C : GC p s m args meth c cL_law 9 RL wsL_law D (tyS c1 c2 c3) A) (htr : l.stackTraces = false) (hx : xF A s s.heap) (hX : va_X sb n xs s s.heap) (hbl : sb < s.heap.size) (hbA : ¬ A sb) {i : Int} (i0 : 0 ≤ i) (i1 : i + 2 < n) (hn : n ≤ 1536) (hcl : cells + 1 ≤ room_1.cells) (hsl : slots + 9 ≤ room_1.slots) {t : Int} (t0 : 0 ≤ t) (t1 : t < 512) {K Dm : Int → Int} {L : Int} {lo hi su db : Int → Int} {S dy li so sp : Int} {tu ah : Int → Int} {M : Int → Int → Int} {f9 : Nat → Int64} {th : Int} {K' Dm' lo' hi' su' db' : Int → Int} {X : Int → Int → Int} {ke se : Int → Int} (r : Rel t K Dm L lo hi su db S li K' Dm' lo' hi' su' db') (kont : ∀ w, LI (t + 1) c1 c2 c3 h k o9 w → J p l e room_1 s m args below meth c 9 D A (cells + 1) (slots + 9) Q w [(0, .ref sb), (1, .ref (h 0)), (2, .ref (k 0)), (3, .ref o9), (4, .int (zI i))] 1713 []) : J p l e room_1 s m args below meth c 9 D A cells slots Q ((wG h c1 c2 K Dm L lo hi su db S dy li so sp tu ah M ++ [(o9, .inl (c3, 1, .inr (.inl f9)))]) ++ wN k c1 th L K' Dm' S lo' hi' su' db' dy li so sp X ke se) [(0, .ref sb), (1, .ref (h 0)), (2, .ref (k 0)), (3, .ref o9), (4, .int (zI i))] 877 [] := by
  obtain ⟨⟨⟨hL0, hL⟩, ⟨hS0, hS⟩, hf, hs⟩, hd, hk, ⟨l0, l1⟩, eK, eD, e1, e2, e3, e4⟩ := id r
  obtain ⟨a, ea⟩ : ∃ a, (xs (i + 1).toNat).toInt = a := ⟨_, rfl⟩
  obtain ⟨b, eb⟩ : ∃ b, (xs (i + 2).toNat).toInt = b := ⟨_, rfl⟩
  have ha : zR a := by rw [← ea]; exact zR_of _
  have hb : zR b := by rw [← eb]; exact zR_of _
  obtain ⟨ha1, ha2⟩ := id ha
  obtain ⟨hb1, hb2⟩ := id hb
  refine j_aload_n (pc := 877) C dL_law_877 1 rfl ?_
  refine J.cast ?_ (List.append_assoc _ _ _) rfl rfl
  refine j_callFI (pc := 878) C (As := []) (rest := []) (kX0_spoilt l D h c1 c2 c3 K Dm L lo hi su db S dy li so sp tu ah M) [0, 1, 2] rfl (cwV 0 C.2.2.2.2.1 gL_law_X0_spoilt rfl rfl rfl (by decide +kernel) ⟨Nat.le_of_ble_eq_true rfl, Nat.le_of_ble_eq_true rfl⟩) 0 (ci := 0) rfl rfl rfl dL_law_878 rfl rfl (Nat.le_of_ble_eq_true rfl) ⟨by omega, by omega⟩ ?_
  refine j_aload_n (pc := 881) C dL_law_881 2 rfl ?_
  refine J.cast ?_ (List.append_assoc _ _ _).symm rfl rfl
  refine J.swap ?_
  refine j_callFI (pc := 882) C (As := []) (rest := [_]) (kX1_spoilt l D k c1 c2 c3 th L K' Dm' S lo' hi' su' db' dy li so sp X ke se) [0, 1, 2] rfl (cwV 0 C.2.2.2.2.1 gL_law_X1_spoilt rfl rfl rfl (by decide +kernel) ⟨Nat.le_of_ble_eq_true rfl, Nat.le_of_ble_eq_true rfl⟩) 0 (ci := 1) rfl rfl rfl dL_law_882 rfl rfl (Nat.le_of_ble_eq_true rfl) ⟨by omega, by omega⟩ ?_
  refine j_icmpE (pc := 885) C 1713 rfl dL_law_885 (by decide) ?_
  refine J.swap ?_
  refine J.widen (k := cells + 1) (n := slots + 9) (by omega) (by omega) (kont _ ?_)
  exact ⟨_, _, _, _, _, _, _, _, _, _, _, _, _, _, _, _, _, _, _, _, _, _, _, _, _, _, rfl, r.up⟩
set_option maxHeartbeats 4000000 in
set_option maxRecDepth 100000 in
theorem lw_dampLayers {p : Program} {l : Launch} {e : Env} {s : State} {m : MethodId} {args : Array Value} {below : List Frame} {meth : Method} {c : Code} {D : va_G} {A : Nat → Prop} {cells slots : Nat} {Q : State → Prop} {c1 c2 c3 : ClassId} {h k : Nat → Nat} {o9 sb n : Nat} {xs : Nat → Int32} (C : GC p s m args meth c cL_law 9 RL wsL_law D (tyS c1 c2 c3) A) (htr : l.stackTraces = false) (hx : xF A s s.heap) (hX : va_X sb n xs s s.heap) (hbl : sb < s.heap.size) (hbA : ¬ A sb) {i : Int} (i0 : 0 ≤ i) (i1 : i + 2 < n) (hn : n ≤ 1536) (hcl : cells + 1 ≤ room_1.cells) (hsl : slots + 9 ≤ room_1.slots) {t : Int} (t0 : 0 ≤ t) (t1 : t < 512) {K Dm : Int → Int} {L : Int} {lo hi su db : Int → Int} {S dy li so sp : Int} {tu ah : Int → Int} {M : Int → Int → Int} {f9 : Nat → Int64} {th : Int} {K' Dm' lo' hi' su' db' : Int → Int} {X : Int → Int → Int} {ke se : Int → Int} (r : Rel t K Dm L lo hi su db S li K' Dm' lo' hi' su' db') (kont : ∀ w, LI (t + 1) c1 c2 c3 h k o9 w → J p l e room_1 s m args below meth c 9 D A (cells + 1) (slots + 9) Q w [(0, .ref sb), (1, .ref (h 0)), (2, .ref (k 0)), (3, .ref o9), (4, .int (zI i))] 1713 []) : J p l e room_1 s m args below meth c 9 D A cells slots Q ((wG h c1 c2 K Dm L lo hi su db S dy li so sp tu ah M ++ [(o9, .inl (c3, 1, .inr (.inl f9)))]) ++ wN k c1 th L K' Dm' S lo' hi' su' db' dy li so sp X ke se) [(0, .ref sb), (1, .ref (h 0)), (2, .ref (k 0)), (3, .ref o9), (4, .int (zI i))] 1002 [] := by
  obtain ⟨⟨⟨hL0, hL⟩, ⟨hS0, hS⟩, hf, hs⟩, hd, hk, ⟨l0, l1⟩, eK, eD, e1, e2, e3, e4⟩ := id r
  obtain ⟨a, ea⟩ : ∃ a, (xs (i + 1).toNat).toInt = a := ⟨_, rfl⟩
  obtain ⟨b, eb⟩ : ∃ b, (xs (i + 2).toNat).toInt = b := ⟨_, rfl⟩
  have ha : zR a := by rw [← ea]; exact zR_of _
  have hb : zR b := by rw [← eb]; exact zR_of _
  obtain ⟨ha1, ha2⟩ := id ha
  obtain ⟨hb1, hb2⟩ := id hb
  refine j_aload_n (pc := 1002) C dL_law_1002 1 rfl ?_
  refine J.cast ?_ (List.append_assoc _ _ _) rfl rfl
  refine j_callFI (pc := 1003) C (As := []) (rest := []) (kX0_dampLayers l D h c1 c2 c3 K Dm L lo hi su db S dy li so sp tu ah M (by omega) (by omega) (by omega) (by omega) r.1.2.2.1) [0, 1, 2] rfl (cwV 0 C.2.2.2.2.1 gL_law_X0_dampLayers rfl rfl rfl (by decide +kernel) ⟨Nat.le_of_ble_eq_true rfl, Nat.le_of_ble_eq_true rfl⟩) 0 (ci := 0) rfl rfl rfl dL_law_1003 rfl rfl (Nat.le_of_ble_eq_true rfl) ⟨by omega, by omega⟩ ?_
  refine j_aload_n (pc := 1006) C dL_law_1006 2 rfl ?_
  refine J.cast ?_ (List.append_assoc _ _ _).symm rfl rfl
  refine J.swap ?_
  refine j_callFI (pc := 1007) C (As := []) (rest := [_]) (kX1_dampLayers l D k c1 c2 c3 th L K' Dm' S lo' hi' su' db' dy li so sp X ke se (by omega) (by omega) (by omega) (by omega) r.okm.2.2.1) [0, 1, 2] rfl (cwV 0 C.2.2.2.2.1 gL_law_X1_dampLayers rfl rfl rfl (by decide +kernel) ⟨Nat.le_of_ble_eq_true rfl, Nat.le_of_ble_eq_true rfl⟩) 0 (ci := 1) rfl rfl rfl dL_law_1007 rfl rfl (Nat.le_of_ble_eq_true rfl) ⟨by omega, by omega⟩ ?_
  refine j_icmpE (pc := 1010) C 1713 (zc_eq 0 L (fun j j0 j1 => by rw [eD j j0 j1])) dL_law_1010 (by decide) ?_
  refine J.swap ?_
  refine J.widen (k := cells + 1) (n := slots + 9) (by omega) (by omega) (kont _ ?_)
  exact ⟨_, _, _, _, _, _, _, _, _, _, _, _, _, _, _, _, _, _, _, _, _, _, _, _, _, _, rfl, r.up⟩
set_option maxHeartbeats 4000000 in
set_option maxRecDepth 100000 in
theorem lw_surelyDry {p : Program} {l : Launch} {e : Env} {s : State} {m : MethodId} {args : Array Value} {below : List Frame} {meth : Method} {c : Code} {D : va_G} {A : Nat → Prop} {cells slots : Nat} {Q : State → Prop} {c1 c2 c3 : ClassId} {h k : Nat → Nat} {o9 sb n : Nat} {xs : Nat → Int32} (C : GC p s m args meth c cL_law 9 RL wsL_law D (tyS c1 c2 c3) A) (htr : l.stackTraces = false) (hx : xF A s s.heap) (hX : va_X sb n xs s s.heap) (hbl : sb < s.heap.size) (hbA : ¬ A sb) {i : Int} (i0 : 0 ≤ i) (i1 : i + 2 < n) (hn : n ≤ 1536) (hcl : cells + 1 ≤ room_1.cells) (hsl : slots + 9 ≤ room_1.slots) {t : Int} (t0 : 0 ≤ t) (t1 : t < 512) {K Dm : Int → Int} {L : Int} {lo hi su db : Int → Int} {S dy li so sp : Int} {tu ah : Int → Int} {M : Int → Int → Int} {f9 : Nat → Int64} {th : Int} {K' Dm' lo' hi' su' db' : Int → Int} {X : Int → Int → Int} {ke se : Int → Int} (r : Rel t K Dm L lo hi su db S li K' Dm' lo' hi' su' db') (kont : ∀ w, LI (t + 1) c1 c2 c3 h k o9 w → J p l e room_1 s m args below meth c 9 D A (cells + 1) (slots + 9) Q w [(0, .ref sb), (1, .ref (h 0)), (2, .ref (k 0)), (3, .ref o9), (4, .int (zI i))] 1713 []) : J p l e room_1 s m args below meth c 9 D A cells slots Q ((wG h c1 c2 K Dm L lo hi su db S dy li so sp tu ah M ++ [(o9, .inl (c3, 1, .inr (.inl f9)))]) ++ wN k c1 th L K' Dm' S lo' hi' su' db' dy li so sp X ke se) [(0, .ref sb), (1, .ref (h 0)), (2, .ref (k 0)), (3, .ref o9), (4, .int (zI i))] 1246 [] := by
  obtain ⟨⟨⟨hL0, hL⟩, ⟨hS0, hS⟩, hf, hs⟩, hd, hk, ⟨l0, l1⟩, eK, eD, e1, e2, e3, e4⟩ := id r
  obtain ⟨a, ea⟩ : ∃ a, (xs (i + 1).toNat).toInt = a := ⟨_, rfl⟩
  obtain ⟨b, eb⟩ : ∃ b, (xs (i + 2).toNat).toInt = b := ⟨_, rfl⟩
  have ha : zR a := by rw [← ea]; exact zR_of _
  have hb : zR b := by rw [← eb]; exact zR_of _
  obtain ⟨ha1, ha2⟩ := id ha
  obtain ⟨hb1, hb2⟩ := id hb
  refine j_aload_n (pc := 1246) C dL_law_1246 1 rfl ?_
  refine J.cast ?_ (List.append_assoc _ _ _) rfl rfl
  refine j_callFI (pc := 1247) C (As := []) (rest := []) (kX0_surelyDry l D h c1 c2 c3 K Dm L lo hi su db S dy li so sp tu ah M r.1 (by omega) (by omega)) [0, 1, 2] rfl (cwV 0 C.2.2.2.2.1 gL_law_X0_surelyDry rfl rfl rfl (by decide +kernel) ⟨Nat.le_of_ble_eq_true rfl, Nat.le_of_ble_eq_true rfl⟩) 0 (ci := 0) rfl rfl rfl dL_law_1247 rfl rfl (Nat.le_of_ble_eq_true rfl) ⟨by omega, by omega⟩ ?_
  refine j_aload_n (pc := 1250) C dL_law_1250 2 rfl ?_
  refine J.cast ?_ (List.append_assoc _ _ _).symm rfl rfl
  refine J.swap ?_
  refine j_callFI (pc := 1251) C (As := []) (rest := [_]) (kX1_surelyDry l D k c1 c2 c3 th L K' Dm' S lo' hi' su' db' dy li so sp X ke se r.okm (by omega) (by omega)) [0, 1, 2] rfl (cwV 0 C.2.2.2.2.1 gL_law_X1_surelyDry rfl rfl rfl (by decide +kernel) ⟨Nat.le_of_ble_eq_true rfl, Nat.le_of_ble_eq_true rfl⟩) 0 (ci := 1) rfl rfl rfl dL_law_1251 rfl rfl (Nat.le_of_ble_eq_true rfl) ⟨by omega, by omega⟩ ?_
  refine j_icmpE (pc := 1254) C 1713 (eqL_nDry (r.mat M X) li) dL_law_1254 (by decide) ?_
  refine J.swap ?_
  refine J.widen (k := cells + 1) (n := slots + 9) (by omega) (by omega) (kont _ ?_)
  exact ⟨_, _, _, _, _, _, _, _, _, _, _, _, _, _, _, _, _, _, _, _, _, _, _, _, _, _, rfl, r.up⟩
set_option maxHeartbeats 4000000 in
set_option maxRecDepth 100000 in
theorem lw_surelyDamp {p : Program} {l : Launch} {e : Env} {s : State} {m : MethodId} {args : Array Value} {below : List Frame} {meth : Method} {c : Code} {D : va_G} {A : Nat → Prop} {cells slots : Nat} {Q : State → Prop} {c1 c2 c3 : ClassId} {h k : Nat → Nat} {o9 sb n : Nat} {xs : Nat → Int32} (C : GC p s m args meth c cL_law 9 RL wsL_law D (tyS c1 c2 c3) A) (htr : l.stackTraces = false) (hx : xF A s s.heap) (hX : va_X sb n xs s s.heap) (hbl : sb < s.heap.size) (hbA : ¬ A sb) {i : Int} (i0 : 0 ≤ i) (i1 : i + 2 < n) (hn : n ≤ 1536) (hcl : cells + 1 ≤ room_1.cells) (hsl : slots + 9 ≤ room_1.slots) {t : Int} (t0 : 0 ≤ t) (t1 : t < 512) {K Dm : Int → Int} {L : Int} {lo hi su db : Int → Int} {S dy li so sp : Int} {tu ah : Int → Int} {M : Int → Int → Int} {f9 : Nat → Int64} {th : Int} {K' Dm' lo' hi' su' db' : Int → Int} {X : Int → Int → Int} {ke se : Int → Int} (r : Rel t K Dm L lo hi su db S li K' Dm' lo' hi' su' db') (kont : ∀ w, LI (t + 1) c1 c2 c3 h k o9 w → J p l e room_1 s m args below meth c 9 D A (cells + 1) (slots + 9) Q w [(0, .ref sb), (1, .ref (h 0)), (2, .ref (k 0)), (3, .ref o9), (4, .int (zI i))] 1713 []) : J p l e room_1 s m args below meth c 9 D A cells slots Q ((wG h c1 c2 K Dm L lo hi su db S dy li so sp tu ah M ++ [(o9, .inl (c3, 1, .inr (.inl f9)))]) ++ wN k c1 th L K' Dm' S lo' hi' su' db' dy li so sp X ke se) [(0, .ref sb), (1, .ref (h 0)), (2, .ref (k 0)), (3, .ref o9), (4, .int (zI i))] 1259 [] := by
  obtain ⟨⟨⟨hL0, hL⟩, ⟨hS0, hS⟩, hf, hs⟩, hd, hk, ⟨l0, l1⟩, eK, eD, e1, e2, e3, e4⟩ := id r
  obtain ⟨a, ea⟩ : ∃ a, (xs (i + 1).toNat).toInt = a := ⟨_, rfl⟩
  obtain ⟨b, eb⟩ : ∃ b, (xs (i + 2).toNat).toInt = b := ⟨_, rfl⟩
  have ha : zR a := by rw [← ea]; exact zR_of _
  have hb : zR b := by rw [← eb]; exact zR_of _
  obtain ⟨ha1, ha2⟩ := id ha
  obtain ⟨hb1, hb2⟩ := id hb
  refine j_aload_n (pc := 1259) C dL_law_1259 1 rfl ?_
  refine J.cast ?_ (List.append_assoc _ _ _) rfl rfl
  refine j_callFI (pc := 1260) C (As := []) (rest := []) (kX0_surelyDamp l D h c1 c2 c3 K Dm L lo hi su db S dy li so sp tu ah M r.1 (by omega) (by omega)) [0, 1, 2] rfl (cwV 0 C.2.2.2.2.1 gL_law_X0_surelyDamp rfl rfl rfl (by decide +kernel) ⟨Nat.le_of_ble_eq_true rfl, Nat.le_of_ble_eq_true rfl⟩) 0 (ci := 0) rfl rfl rfl dL_law_1260 rfl rfl (Nat.le_of_ble_eq_true rfl) ⟨by omega, by omega⟩ ?_
  refine j_aload_n (pc := 1263) C dL_law_1263 2 rfl ?_
  refine J.cast ?_ (List.append_assoc _ _ _).symm rfl rfl
  refine J.swap ?_
  refine j_callFI (pc := 1264) C (As := []) (rest := [_]) (kX1_surelyDamp l D k c1 c2 c3 th L K' Dm' S lo' hi' su' db' dy li so sp X ke se r.okm (by omega) (by omega)) [0, 1, 2] rfl (cwV 0 C.2.2.2.2.1 gL_law_X1_surelyDamp rfl rfl rfl (by decide +kernel) ⟨Nat.le_of_ble_eq_true rfl, Nat.le_of_ble_eq_true rfl⟩) 0 (ci := 1) rfl rfl rfl dL_law_1264 rfl rfl (Nat.le_of_ble_eq_true rfl) ⟨by omega, by omega⟩ ?_
  refine j_icmpE (pc := 1267) C 1713 (eqL_nDamp (r.mat M X) li) dL_law_1267 (by decide) ?_
  refine J.swap ?_
  refine J.widen (k := cells + 1) (n := slots + 9) (by omega) (by omega) (kont _ ?_)
  exact ⟨_, _, _, _, _, _, _, _, _, _, _, _, _, _, _, _, _, _, _, _, _, _, _, _, _, _, rfl, r.up⟩
set_option maxHeartbeats 4000000 in
set_option maxRecDepth 100000 in
theorem lw_doubt {p : Program} {l : Launch} {e : Env} {s : State} {m : MethodId} {args : Array Value} {below : List Frame} {meth : Method} {c : Code} {D : va_G} {A : Nat → Prop} {cells slots : Nat} {Q : State → Prop} {c1 c2 c3 : ClassId} {h k : Nat → Nat} {o9 sb n : Nat} {xs : Nat → Int32} (C : GC p s m args meth c cL_law 9 RL wsL_law D (tyS c1 c2 c3) A) (htr : l.stackTraces = false) (hx : xF A s s.heap) (hX : va_X sb n xs s s.heap) (hbl : sb < s.heap.size) (hbA : ¬ A sb) {i : Int} (i0 : 0 ≤ i) (i1 : i + 2 < n) (hn : n ≤ 1536) (hcl : cells + 1 ≤ room_1.cells) (hsl : slots + 9 ≤ room_1.slots) {t : Int} (t0 : 0 ≤ t) (t1 : t < 512) {K Dm : Int → Int} {L : Int} {lo hi su db : Int → Int} {S dy li so sp : Int} {tu ah : Int → Int} {M : Int → Int → Int} {f9 : Nat → Int64} {th : Int} {K' Dm' lo' hi' su' db' : Int → Int} {X : Int → Int → Int} {ke se : Int → Int} (r : Rel t K Dm L lo hi su db S li K' Dm' lo' hi' su' db') (kont : ∀ w, LI (t + 1) c1 c2 c3 h k o9 w → J p l e room_1 s m args below meth c 9 D A (cells + 1) (slots + 9) Q w [(0, .ref sb), (1, .ref (h 0)), (2, .ref (k 0)), (3, .ref o9), (4, .int (zI i))] 1713 []) : J p l e room_1 s m args below meth c 9 D A cells slots Q ((wG h c1 c2 K Dm L lo hi su db S dy li so sp tu ah M ++ [(o9, .inl (c3, 1, .inr (.inl f9)))]) ++ wN k c1 th L K' Dm' S lo' hi' su' db' dy li so sp X ke se) [(0, .ref sb), (1, .ref (h 0)), (2, .ref (k 0)), (3, .ref o9), (4, .int (zI i))] 1316 [] := by
  obtain ⟨⟨⟨hL0, hL⟩, ⟨hS0, hS⟩, hf, hs⟩, hd, hk, ⟨l0, l1⟩, eK, eD, e1, e2, e3, e4⟩ := id r
  obtain ⟨a, ea⟩ : ∃ a, (xs (i + 1).toNat).toInt = a := ⟨_, rfl⟩
  obtain ⟨b, eb⟩ : ∃ b, (xs (i + 2).toNat).toInt = b := ⟨_, rfl⟩
  have ha : zR a := by rw [← ea]; exact zR_of _
  have hb : zR b := by rw [← eb]; exact zR_of _
  obtain ⟨ha1, ha2⟩ := id ha
  obtain ⟨hb1, hb2⟩ := id hb
  refine j_aload_n (pc := 1316) C dL_law_1316 1 rfl ?_
  refine J.cast ?_ (List.append_assoc _ _ _) rfl rfl
  refine j_callFI (pc := 1317) C (As := []) (rest := []) (kX0_doubt l D h c1 c2 c3 K Dm L lo hi su db S dy li so sp tu ah M r.1) [0, 1, 2] rfl (cwV 0 C.2.2.2.2.1 gL_law_X0_doubt rfl rfl rfl (by decide +kernel) ⟨Nat.le_of_ble_eq_true rfl, Nat.le_of_ble_eq_true rfl⟩) 0 (ci := 0) rfl rfl rfl dL_law_1317 rfl rfl (Nat.le_of_ble_eq_true rfl) ⟨by omega, by omega⟩ ?_
  refine j_aload_n (pc := 1320) C dL_law_1320 2 rfl ?_
  refine J.cast ?_ (List.append_assoc _ _ _).symm rfl rfl
  refine J.swap ?_
  refine j_callFI (pc := 1321) C (As := []) (rest := [_]) (kX1_doubt l D k c1 c2 c3 th L K' Dm' S lo' hi' su' db' dy li so sp X ke se r.okm) [0, 1, 2] rfl (cwV 0 C.2.2.2.2.1 gL_law_X1_doubt rfl rfl rfl (by decide +kernel) ⟨Nat.le_of_ble_eq_true rfl, Nat.le_of_ble_eq_true rfl⟩) 0 (ci := 1) rfl rfl rfl dL_law_1321 rfl rfl (Nat.le_of_ble_eq_true rfl) ⟨by omega, by omega⟩ ?_
  refine j_icmpE (pc := 1324) C 1713 (eqL_dNow (r.mat M X)) dL_law_1324 (by decide) ?_
  refine J.swap ?_
  refine J.widen (k := cells + 1) (n := slots + 9) (by omega) (by omega) (kont _ ?_)
  exact ⟨_, _, _, _, _, _, _, _, _, _, _, _, _, _, _, _, _, _, _, _, _, _, _, _, _, _, rfl, r.up⟩
set_option maxHeartbeats 4000000 in
set_option maxRecDepth 100000 in
theorem lw_daysUntilEven {p : Program} {l : Launch} {e : Env} {s : State} {m : MethodId} {args : Array Value} {below : List Frame} {meth : Method} {c : Code} {D : va_G} {A : Nat → Prop} {cells slots : Nat} {Q : State → Prop} {c1 c2 c3 : ClassId} {h k : Nat → Nat} {o9 sb n : Nat} {xs : Nat → Int32} (C : GC p s m args meth c cL_law 9 RL wsL_law D (tyS c1 c2 c3) A) (htr : l.stackTraces = false) (hx : xF A s s.heap) (hX : va_X sb n xs s s.heap) (hbl : sb < s.heap.size) (hbA : ¬ A sb) {i : Int} (i0 : 0 ≤ i) (i1 : i + 2 < n) (hn : n ≤ 1536) (hcl : cells + 1 ≤ room_1.cells) (hsl : slots + 9 ≤ room_1.slots) {t : Int} (t0 : 0 ≤ t) (t1 : t < 512) {K Dm : Int → Int} {L : Int} {lo hi su db : Int → Int} {S dy li so sp : Int} {tu ah : Int → Int} {M : Int → Int → Int} {f9 : Nat → Int64} {th : Int} {K' Dm' lo' hi' su' db' : Int → Int} {X : Int → Int → Int} {ke se : Int → Int} (r : Rel t K Dm L lo hi su db S li K' Dm' lo' hi' su' db') (kont : ∀ w, LI (t + 1) c1 c2 c3 h k o9 w → J p l e room_1 s m args below meth c 9 D A (cells + 1) (slots + 9) Q w [(0, .ref sb), (1, .ref (h 0)), (2, .ref (k 0)), (3, .ref o9), (4, .int (zI i))] 1713 []) : J p l e room_1 s m args below meth c 9 D A cells slots Q ((wG h c1 c2 K Dm L lo hi su db S dy li so sp tu ah M ++ [(o9, .inl (c3, 1, .inr (.inl f9)))]) ++ wN k c1 th L K' Dm' S lo' hi' su' db' dy li so sp X ke se) [(0, .ref sb), (1, .ref (h 0)), (2, .ref (k 0)), (3, .ref o9), (4, .int (zI i))] 1645 [] := by
  obtain ⟨⟨⟨hL0, hL⟩, ⟨hS0, hS⟩, hf, hs⟩, hd, hk, ⟨l0, l1⟩, eK, eD, e1, e2, e3, e4⟩ := id r
  obtain ⟨a, ea⟩ : ∃ a, (xs (i + 1).toNat).toInt = a := ⟨_, rfl⟩
  obtain ⟨b, eb⟩ : ∃ b, (xs (i + 2).toNat).toInt = b := ⟨_, rfl⟩
  have ha : zR a := by rw [← ea]; exact zR_of _
  have hb : zR b := by rw [← eb]; exact zR_of _
  obtain ⟨ha1, ha2⟩ := id ha
  obtain ⟨hb1, hb2⟩ := id hb
  refine j_aload_n (pc := 1645) C dL_law_1645 1 rfl ?_
  refine J.cast ?_ (List.append_assoc _ _ _) rfl rfl
  refine j_callFI (pc := 1646) C (As := []) (rest := []) (kX0_daysUntilEven l D h c1 c2 c3 K Dm L lo hi su db S dy li so sp tu ah M (by omega) (by omega) r.1.2.2.1) [0, 1, 2] rfl (cwV 0 C.2.2.2.2.1 gL_law_X0_daysUntilEven rfl rfl rfl (by decide +kernel) ⟨Nat.le_of_ble_eq_true rfl, Nat.le_of_ble_eq_true rfl⟩) 0 (ci := 0) rfl rfl rfl dL_law_1646 rfl rfl (Nat.le_of_ble_eq_true rfl) ⟨by omega, by omega⟩ ?_
  refine j_aload_n (pc := 1649) C dL_law_1649 2 rfl ?_
  refine J.cast ?_ (List.append_assoc _ _ _).symm rfl rfl
  refine J.swap ?_
  refine j_callFI (pc := 1650) C (As := []) (rest := [_]) (kX1_daysUntilEven l D k c1 c2 c3 th L K' Dm' S lo' hi' su' db' dy li so sp X ke se (by omega) (by omega) r.okm.2.2.1) [0, 1, 2] rfl (cwV 0 C.2.2.2.2.1 gL_law_X1_daysUntilEven rfl rfl rfl (by decide +kernel) ⟨Nat.le_of_ble_eq_true rfl, Nat.le_of_ble_eq_true rfl⟩) 0 (ci := 1) rfl rfl rfl dL_law_1650 rfl rfl (Nat.le_of_ble_eq_true rfl) ⟨by omega, by omega⟩ ?_
  refine j_icmpE (pc := 1653) C 1713 (even_eq (r.mix ah)) dL_law_1653 (by decide) ?_
  refine J.swap ?_
  refine J.widen (k := cells + 1) (n := slots + 9) (by omega) (by omega) (kont _ ?_)
  exact ⟨_, _, _, _, _, _, _, _, _, _, _, _, _, _, _, _, _, _, _, _, _, _, _, _, _, _, rfl, (r.up.dm _ (eD.back hL _))⟩
set_option maxHeartbeats 4000000 in
set_option maxRecDepth 100000 in
theorem lw_meanDampness {p : Program} {l : Launch} {e : Env} {s : State} {m : MethodId} {args : Array Value} {below : List Frame} {meth : Method} {c : Code} {D : va_G} {A : Nat → Prop} {cells slots : Nat} {Q : State → Prop} {c1 c2 c3 : ClassId} {h k : Nat → Nat} {o9 sb n : Nat} {xs : Nat → Int32} (C : GC p s m args meth c cL_law 9 RL wsL_law D (tyS c1 c2 c3) A) (htr : l.stackTraces = false) (hx : xF A s s.heap) (hX : va_X sb n xs s s.heap) (hbl : sb < s.heap.size) (hbA : ¬ A sb) {i : Int} (i0 : 0 ≤ i) (i1 : i + 2 < n) (hn : n ≤ 1536) (hcl : cells + 1 ≤ room_1.cells) (hsl : slots + 9 ≤ room_1.slots) {t : Int} (t0 : 0 ≤ t) (t1 : t < 512) {K Dm : Int → Int} {L : Int} {lo hi su db : Int → Int} {S dy li so sp : Int} {tu ah : Int → Int} {M : Int → Int → Int} {f9 : Nat → Int64} {th : Int} {K' Dm' lo' hi' su' db' : Int → Int} {X : Int → Int → Int} {ke se : Int → Int} (r : Rel t K Dm L lo hi su db S li K' Dm' lo' hi' su' db') (kont : ∀ w, LI (t + 1) c1 c2 c3 h k o9 w → J p l e room_1 s m args below meth c 9 D A (cells + 1) (slots + 9) Q w [(0, .ref sb), (1, .ref (h 0)), (2, .ref (k 0)), (3, .ref o9), (4, .int (zI i))] 1713 []) : J p l e room_1 s m args below meth c 9 D A cells slots Q ((wG h c1 c2 K Dm L lo hi su db S dy li so sp tu ah M ++ [(o9, .inl (c3, 1, .inr (.inl f9)))]) ++ wN k c1 th L K' Dm' S lo' hi' su' db' dy li so sp X ke se) [(0, .ref sb), (1, .ref (h 0)), (2, .ref (k 0)), (3, .ref o9), (4, .int (zI i))] 1658 [] := by
  obtain ⟨⟨⟨hL0, hL⟩, ⟨hS0, hS⟩, hf, hs⟩, hd, hk, ⟨l0, l1⟩, eK, eD, e1, e2, e3, e4⟩ := id r
  obtain ⟨a, ea⟩ : ∃ a, (xs (i + 1).toNat).toInt = a := ⟨_, rfl⟩
  obtain ⟨b, eb⟩ : ∃ b, (xs (i + 2).toNat).toInt = b := ⟨_, rfl⟩
  have ha : zR a := by rw [← ea]; exact zR_of _
  have hb : zR b := by rw [← eb]; exact zR_of _
  obtain ⟨ha1, ha2⟩ := id ha
  obtain ⟨hb1, hb2⟩ := id hb
  refine j_aload_n (pc := 1658) C dL_law_1658 1 rfl ?_
  refine J.cast ?_ (List.append_assoc _ _ _) rfl rfl
  refine j_callFD (pc := 1659) C (As := []) (rest := []) (kX0_meanDampness l D h c1 c2 c3 K Dm L lo hi su db S dy li so sp tu ah M (by omega) (by omega) r.1.2.2.1) [0, 1, 2] rfl (cwV 0 C.2.2.2.2.1 gL_law_X0_meanDampness rfl rfl rfl (by decide +kernel) ⟨Nat.le_of_ble_eq_true rfl, Nat.le_of_ble_eq_true rfl⟩) 0 (ci := 0) rfl rfl rfl dL_law_1659 rfl rfl (Nat.le_of_ble_eq_true rfl) ⟨by omega, by omega⟩ ?_
  refine j_dstore (pc := 1662) C dL_law_1662 (by decide) [1, 2, 3, 4, 5, 0] rfl ?_
  refine j_aload_n (pc := 1664) C dL_law_1664 2 rfl ?_
  refine J.cast ?_ (List.append_assoc _ _ _).symm rfl rfl
  refine J.swap ?_
  refine j_callFD (pc := 1665) C (As := []) (rest := []) (kX1_meanDampness l D k c1 c2 c3 th L K' Dm' S lo' hi' su' db' dy li so sp X ke se (by omega) (by omega) r.okm.2.2.1) [0, 1, 2] rfl (cwV 0 C.2.2.2.2.1 gL_law_X1_meanDampness rfl rfl rfl (by decide +kernel) ⟨Nat.le_of_ble_eq_true rfl, Nat.le_of_ble_eq_true rfl⟩) 0 (ci := 1) rfl rfl rfl dL_law_1665 rfl rfl (Nat.le_of_ble_eq_true rfl) ⟨by omega, by omega⟩ ?_
  refine j_dstore (pc := 1668) C dL_law_1668 (by decide) [1, 2, 3, 4, 5, 6, 0] rfl ?_
  refine j_dload (pc := 1670) C dL_law_1670 5 rfl ?_
  refine j_dload (pc := 1672) C dL_law_1672 6 rfl ?_
  refine j_dcmpE (pc := 1674) C (mean_same hL0 hL hf (r.zse 0 (L - 1 + 1) (by omega) (by omega))) dL_law_1674 ?_
  refine j_if_eq (pc := 1675) C 1696 dL_law_1675 (by decide) ⟨by decide, by decide⟩ (fun _ => ?_) (fun q => absurd rfl q)
  refine j_goto (pc := 1696) C 1713 dL_law_1696 (by decide) ?_
  refine J.swap ?_
  refine J.pick [0, 1, 2, 3, 4] rfl ?_
  refine J.widen (k := cells + 1) (n := slots + 9) (by omega) (by omega) (kont _ ?_)
  exact ⟨_, _, _, _, _, _, _, _, _, _, _, _, _, _, _, _, _, _, _, _, _, _, _, _, _, _, rfl, r.up⟩
set_option maxHeartbeats 4000000 in
set_option maxRecDepth 100000 in
theorem lw_digest {p : Program} {l : Launch} {e : Env} {s : State} {m : MethodId} {args : Array Value} {below : List Frame} {meth : Method} {c : Code} {D : va_G} {A : Nat → Prop} {cells slots : Nat} {Q : State → Prop} {c1 c2 c3 : ClassId} {h k : Nat → Nat} {o9 sb n : Nat} {xs : Nat → Int32} (C : GC p s m args meth c cL_law 9 RL wsL_law D (tyS c1 c2 c3) A) (htr : l.stackTraces = false) (hx : xF A s s.heap) (hX : va_X sb n xs s s.heap) (hbl : sb < s.heap.size) (hbA : ¬ A sb) {i : Int} (i0 : 0 ≤ i) (i1 : i + 2 < n) (hn : n ≤ 1536) (hcl : cells + 1 ≤ room_1.cells) (hsl : slots + 9 ≤ room_1.slots) {t : Int} (t0 : 0 ≤ t) (t1 : t < 512) {K Dm : Int → Int} {L : Int} {lo hi su db : Int → Int} {S dy li so sp : Int} {tu ah : Int → Int} {M : Int → Int → Int} {f9 : Nat → Int64} {th : Int} {K' Dm' lo' hi' su' db' : Int → Int} {X : Int → Int → Int} {ke se : Int → Int} (r : Rel t K Dm L lo hi su db S li K' Dm' lo' hi' su' db') (kont : ∀ w, LI (t + 1) c1 c2 c3 h k o9 w → J p l e room_1 s m args below meth c 9 D A (cells + 1) (slots + 9) Q w [(0, .ref sb), (1, .ref (h 0)), (2, .ref (k 0)), (3, .ref o9), (4, .int (zI i))] 1713 []) : J p l e room_1 s m args below meth c 9 D A cells slots Q ((wG h c1 c2 K Dm L lo hi su db S dy li so sp tu ah M ++ [(o9, .inl (c3, 1, .inr (.inl f9)))]) ++ wN k c1 th L K' Dm' S lo' hi' su' db' dy li so sp X ke se) [(0, .ref sb), (1, .ref (h 0)), (2, .ref (k 0)), (3, .ref o9), (4, .int (zI i))] 1699 [] := by
  obtain ⟨⟨⟨hL0, hL⟩, ⟨hS0, hS⟩, hf, hs⟩, hd, hk, ⟨l0, l1⟩, eK, eD, e1, e2, e3, e4⟩ := id r
  obtain ⟨a, ea⟩ : ∃ a, (xs (i + 1).toNat).toInt = a := ⟨_, rfl⟩
  obtain ⟨b, eb⟩ : ∃ b, (xs (i + 2).toNat).toInt = b := ⟨_, rfl⟩
  have ha : zR a := by rw [← ea]; exact zR_of _
  have hb : zR b := by rw [← eb]; exact zR_of _
  obtain ⟨ha1, ha2⟩ := id ha
  obtain ⟨hb1, hb2⟩ := id hb
  refine j_aload_n (pc := 1699) C dL_law_1699 1 rfl ?_
  refine J.cast ?_ (List.append_assoc _ _ _) rfl rfl
  refine j_callFL (pc := 1700) C (As := []) (rest := []) (kX0_digest l D h c1 c2 c3 K Dm L lo hi su db S dy li so sp tu ah M r.1 (by omega) (by omega)) [0, 1, 2] rfl (cwV 0 C.2.2.2.2.1 gL_law_X0_digest rfl rfl rfl (by decide +kernel) ⟨Nat.le_of_ble_eq_true rfl, Nat.le_of_ble_eq_true rfl⟩) 0 (ci := 0) rfl rfl rfl dL_law_1700 rfl rfl (Nat.le_of_ble_eq_true rfl) ⟨by omega, by omega⟩ ?_
  refine j_aload_n (pc := 1703) C dL_law_1703 2 rfl ?_
  refine J.cast ?_ (List.append_assoc _ _ _).symm rfl rfl
  refine J.swap ?_
  refine j_callFL (pc := 1704) C (As := []) (rest := [_]) (kX1_digest l D k c1 c2 c3 th L K' Dm' S lo' hi' su' db' dy li so sp X ke se r.okm (by omega) (by omega)) [0, 1, 2] rfl (cwV 0 C.2.2.2.2.1 gL_law_X1_digest rfl rfl rfl (by decide +kernel) ⟨Nat.le_of_ble_eq_true rfl, Nat.le_of_ble_eq_true rfl⟩) 0 (ci := 1) rfl rfl rfl dL_law_1704 rfl rfl (Nat.le_of_ble_eq_true rfl) ⟨by omega, by omega⟩ ?_
  refine j_lcmpE (pc := 1707) C (r.digest M X dy so sp).symm dL_law_1707 ?_
  refine j_if_eq (pc := 1708) C 1713 dL_law_1708 (by decide) ⟨by decide, by decide⟩ (fun _ => ?_) (fun q => absurd rfl q)
  refine J.swap ?_
  refine J.widen (k := cells + 1) (n := slots + 9) (by omega) (by omega) (kont _ ?_)
  exact ⟨_, _, _, _, _, _, _, _, _, _, _, _, _, _, _, _, _, _, _, _, _, _, _, _, _, _, rfl, r.up⟩
