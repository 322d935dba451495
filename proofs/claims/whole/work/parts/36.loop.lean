/-! ===== the law's loop ===== -/
theorem lw_exit {p : Program} {l : Launch} {e : Env} {s : State} {m : MethodId} {below : List Frame} {meth : Method} {c : Code} {D : va_G} {c1 c2 c3 : ClassId} {h k : Nat → Nat} {o9 sb n : Nat} {xs : Nat → Int32} (C : GC p s m #[Value.ref sb] meth c cL_law 9 RL wsL_law D (tyS c1 c2 c3) (fun q : Nat => s.heap.size ≤ q)) (hr : meth.sig.returnType = ret) (htr : l.stackTraces = false) (hx : xF (fun q : Nat => s.heap.size ≤ q) s s.heap) (hX : va_X sb n xs s s.heap) (hbl : sb < s.heap.size) (hn : n ≤ 1536) {cells slots : Nat} (h1 : cells ≤ 601024) (h2 : slots ≤ 7293034) (w : va_W) (lv : List (Nat × Value)) : J p l e room_1 s m #[Value.ref sb] below meth c 9 D (fun q : Nat => s.heap.size ≤ q) cells slots (lw_Z below #[Value.ref sb] s) w lv 1719 [] := by
  refine j_iconst (pc := 1719) C dL_law_1719 ?_
  intro H locs ls hP hD hS hl
  refine va_forget (fun q hq => hS.2.2 q hq) ?_
  refine W.widen (k := 601024) (n := 7293034) h1 h2 ?_
  rw [show zI 1 = 1 by decide +kernel]
  exact lw_ret (d0 := s.drawn) (Drawn.sameBut.refl s.drawn lw_cs) C.1 C.2.1 hr C.2.2.2.2.2.2.2 dL_law_1720
set_option maxHeartbeats 4000000 in
set_option maxRecDepth 100000 in
theorem lw_step {p : Program} {l : Launch} {e : Env} {s : State} {m : MethodId} {below : List Frame} {meth : Method} {c : Code} {D : va_G} {c1 c2 c3 : ClassId} {h k : Nat → Nat} {o9 sb n : Nat} {xs : Nat → Int32} (C : GC p s m #[Value.ref sb] meth c cL_law 9 RL wsL_law D (tyS c1 c2 c3) (fun q : Nat => s.heap.size ≤ q)) (hr : meth.sig.returnType = ret) (htr : l.stackTraces = false) (hx : xF (fun q : Nat => s.heap.size ≤ q) s s.heap) (hX : va_X sb n xs s s.heap) (hbl : sb < s.heap.size) (hn : n ≤ 1536) {T : Nat} (hT : T ≤ 512) {w : va_W} (hw : LI (T : Int) c1 c2 c3 h k o9 w)
    (kont : T < 512 → ∀ w, LI ((T : Int) + 1) c1 c2 c3 h k o9 w → J p l e room_1 s m #[Value.ref sb] below meth c 9 D (fun q : Nat => s.heap.size ≤ q) (100 + T + 1) (1000 + 9 * T + 9) (lw_Z below #[Value.ref sb] s) w [(0, .ref sb), (1, .ref (h 0)), (2, .ref (k 0)), (3, .ref o9), (4, .int (zI (3 * (T : Int))))] 1713 []) : J p l e room_1 s m #[Value.ref sb] below meth c 9 D (fun q : Nat => s.heap.size ≤ q) (100 + T) (1000 + 9 * T) (lw_Z below #[Value.ref sb] s) w [(0, .ref sb), (1, .ref (h 0)), (2, .ref (k 0)), (3, .ref o9), (4, .int (zI (3 * (T : Int))))] 23 [] := by
  have hbA : ¬ (fun q : Nat => s.heap.size ≤ q) sb := Nat.not_le.mpr hbl
  have hcl : 100 + T + 1 ≤ room_1.cells := by show 100 + T + 1 ≤ 601024; omega
  have hsl : 1000 + 9 * T + 9 ≤ room_1.slots := by show 1000 + 9 * T + 9 ≤ 7293034; omega
  refine j_iload (pc := 23) C dL_law_23 4 rfl ?_
  refine j_aload_n (pc := 25) C dL_law_25 0 rfl ?_
  refine j_slen (pc := 26) C hX hbl hbA (by omega) dL_law_26 ?_
  refine j_iconst (pc := 27) C dL_law_27 ?_
  refine j_isub (pc := 28) C dL_law_28 ?_
  refine j_icmp_gt (pc := 29) C 1719 dL_law_29 (by decide) ⟨by omega, by omega⟩ ⟨by omega, by omega⟩ (fun hg => ?_) (fun hg => ?_)
  · exact lw_exit (h := h) (k := k) (o9 := o9) C hr htr hx hX hbl hn (by omega) (by omega) _ _
  have hT2 : T < 512 := by omega
  have kont := kont hT2
  refine j_aload_n (pc := 32) C dL_law_32 0 rfl ?_
  refine j_iload (pc := 33) C dL_law_33 4 rfl ?_
  refine j_sld (pc := 35) C hX hbl hbA hn (by omega) (by omega) rfl dL_law_35 ?_
  refine j_bipush (pc := 36) C dL_law_36 (by decide +kernel) ?_
  obtain ⟨j, hj, ej⟩ := pk_andE (zI ((xs (3 * (T : Int)).toNat).toInt)) (m := zI 63) 6 (by decide +kernel)
  refine j_iand (pc := 38) C ej dL_law_38 ?_
  obtain ⟨K, Dm, L, lo, hi, su, db, S, dy, li, so, sp, tu, ah, M, f9, th, K', Dm', lo', hi', su', db', X, ke, se, rfl, r⟩ := hw
  have hd : j = 0 ∨ j = 1 ∨ j = 2 ∨ j = 3 ∨ j = 4 ∨ j = 5 ∨ j = 6 ∨ j = 7 ∨ j = 8 ∨ j = 9 ∨ j = 10 ∨ j = 11 ∨ j = 12 ∨ j = 13 ∨ j = 14 ∨ j = 15 ∨ j = 16 ∨ j = 17 ∨ j = 18 ∨ j = 19 ∨ j = 20 ∨ j = 21 ∨ j = 22 ∨ j = 23 ∨ j = 24 ∨ j = 25 ∨ j = 26 ∨ j = 27 ∨ j = 28 ∨ j = 29 ∨ j = 30 ∨ j = 31 ∨ j = 32 ∨ j = 33 ∨ j = 34 ∨ j = 35 ∨ 36 ≤ j := by omega
  rcases hd with rfl | rfl | rfl | rfl | rfl | rfl | rfl | rfl | rfl | rfl | rfl | rfl | rfl | rfl | rfl | rfl | rfl | rfl | rfl | rfl | rfl | rfl | rfl | rfl | rfl | rfl | rfl | rfl | rfl | rfl | rfl | rfl | rfl | rfl | rfl | rfl | hd
  · exact j_tabIn (pc := 39) C 196 (off := 157) dL_law_39 (by decide +kernel) (by decide +kernel) (by decide +kernel) (by decide) (lw_fill C htr hx hX hbl hbA (by omega) (by omega) hn hcl hsl (by omega) (by omega) r kont)
  · exact j_tabIn (pc := 39) C 264 (off := 225) dL_law_39 (by decide +kernel) (by decide +kernel) (by decide +kernel) (by decide) (lw_letOut C htr hx hX hbl hbA (by omega) (by omega) hn hcl hsl (by omega) (by omega) r kont)
  · exact j_tabIn (pc := 39) C 308 (off := 269) dL_law_39 (by decide +kernel) (by decide +kernel) (by decide +kernel) (by decide) (lw_turnOver C htr hx hX hbl hbA (by omega) (by omega) hn hcl hsl (by omega) (by omega) r kont)
  · exact j_tabIn (pc := 39) C 352 (off := 313) dL_law_39 (by decide +kernel) (by decide +kernel) (by decide +kernel) (by decide) (lw_setLimit C htr hx hX hbl hbA (by omega) (by omega) hn hcl hsl (by omega) (by omega) r kont)
  · exact j_tabIn (pc := 39) C 408 (off := 369) dL_law_39 (by decide +kernel) (by decide +kernel) (by decide +kernel) (by decide) (lw_pass C htr hx hX hbl hbA (by omega) (by omega) hn hcl hsl (by omega) (by omega) r kont)
  · exact j_tabIn (pc := 39) C 464 (off := 425) dL_law_39 (by decide +kernel) (by decide +kernel) (by decide +kernel) (by decide) (lw_draw C htr hx hX hbl hbA (by omega) (by omega) hn hcl hsl (by omega) (by omega) r kont)
  · exact j_tabIn (pc := 39) C 532 (off := 493) dL_law_39 (by decide +kernel) (by decide +kernel) (by decide +kernel) (by decide) (lw_throwAway C htr hx hX hbl hbA (by omega) (by omega) hn hcl hsl (by omega) (by omega) r kont)
  · exact j_tabIn (pc := 39) C 588 (off := 549) dL_law_39 (by decide +kernel) (by decide +kernel) (by decide +kernel) (by decide) (lw_samples C htr hx hX hbl hbA (by omega) (by omega) hn hcl hsl (by omega) (by omega) r kont)
  · exact j_tabIn (pc := 39) C 601 (off := 562) dL_law_39 (by decide +kernel) (by decide +kernel) (by decide +kernel) (by decide) (lw_lowestOf C htr hx hX hbl hbA (by omega) (by omega) hn hcl hsl (by omega) (by omega) r kont)
  · exact j_tabIn (pc := 39) C 657 (off := 618) dL_law_39 (by decide +kernel) (by decide +kernel) (by decide +kernel) (by decide) (lw_highestOf C htr hx hX hbl hbA (by omega) (by omega) hn hcl hsl (by omega) (by omega) r kont)
  · exact j_tabIn (pc := 39) C 713 (off := 674) dL_law_39 (by decide +kernel) (by decide +kernel) (by decide +kernel) (by decide) (lw_sumOf C htr hx hX hbl hbA (by omega) (by omega) hn hcl hsl (by omega) (by omega) r kont)
  · exact j_tabIn (pc := 39) C 769 (off := 730) dL_law_39 (by decide +kernel) (by decide +kernel) (by decide +kernel) (by decide) (lw_doubtOf C htr hx hX hbl hbA (by omega) (by omega) hn hcl hsl (by omega) (by omega) r kont)
  · exact j_tabIn (pc := 39) C 825 (off := 786) dL_law_39 (by decide +kernel) (by decide +kernel) (by decide +kernel) (by decide) (lw_layers C htr hx hX hbl hbA (by omega) (by omega) hn hcl hsl (by omega) (by omega) r kont)
  · exact j_tabIn (pc := 39) C 838 (off := 799) dL_law_39 (by decide +kernel) (by decide +kernel) (by decide +kernel) (by decide) (lw_day C htr hx hX hbl hbA (by omega) (by omega) hn hcl hsl (by omega) (by omega) r kont)
  · exact j_tabIn (pc := 39) C 851 (off := 812) dL_law_39 (by decide +kernel) (by decide +kernel) (by decide +kernel) (by decide) (lw_limit C htr hx hX hbl hbA (by omega) (by omega) hn hcl hsl (by omega) (by omega) r kont)
  · exact j_tabIn (pc := 39) C 864 (off := 825) dL_law_39 (by decide +kernel) (by decide +kernel) (by decide +kernel) (by decide) (lw_sold C htr hx hX hbl hbA (by omega) (by omega) hn hcl hsl (by omega) (by omega) r kont)
  · exact j_tabIn (pc := 39) C 877 (off := 838) dL_law_39 (by decide +kernel) (by decide +kernel) (by decide +kernel) (by decide) (lw_spoilt C htr hx hX hbl hbA (by omega) (by omega) hn hcl hsl (by omega) (by omega) r kont)
  · exact j_tabIn (pc := 39) C 890 (off := 851) dL_law_39 (by decide +kernel) (by decide +kernel) (by decide +kernel) (by decide) (lw_kindOf C htr hx hX hbl hbA (by omega) (by omega) hn hcl hsl (by omega) (by omega) r kont)
  · exact j_tabIn (pc := 39) C 946 (off := 907) dL_law_39 (by decide +kernel) (by decide +kernel) (by decide +kernel) (by decide) (lw_dampnessOf C htr hx hX hbl hbA (by omega) (by omega) hn hcl hsl (by omega) (by omega) r kont)
  · exact j_tabIn (pc := 39) C 1002 (off := 963) dL_law_39 (by decide +kernel) (by decide +kernel) (by decide +kernel) (by decide) (lw_dampLayers C htr hx hX hbl hbA (by omega) (by omega) hn hcl hsl (by omega) (by omega) r kont)
  · exact j_tabIn (pc := 39) C 1015 (off := 976) dL_law_39 (by decide +kernel) (by decide +kernel) (by decide +kernel) (by decide) (lw_layersAheadOf C htr hx hX hbl hbA (by omega) (by omega) hn hcl hsl (by omega) (by omega) r kont)
  · exact j_tabIn (pc := 39) C 1071 (off := 1032) dL_law_39 (by decide +kernel) (by decide +kernel) (by decide +kernel) (by decide) (lw_leastOf C htr hx hX hbl hbA (by omega) (by omega) hn hcl hsl (by omega) (by omega) r kont)
  · exact j_tabIn (pc := 39) C 1127 (off := 1088) dL_law_39 (by decide +kernel) (by decide +kernel) (by decide +kernel) (by decide) (lw_greatestOf C htr hx hX hbl hbA (by omega) (by omega) hn hcl hsl (by omega) (by omega) r kont)
  · exact j_tabIn (pc := 39) C 1183 (off := 1144) dL_law_39 (by decide +kernel) (by decide +kernel) (by decide +kernel) (by decide) (lw_isKnown C htr hx hX hbl hbA (by omega) (by omega) hn hcl hsl (by omega) (by omega) r kont)
  · exact j_tabIn (pc := 39) C 1246 (off := 1207) dL_law_39 (by decide +kernel) (by decide +kernel) (by decide +kernel) (by decide) (lw_surelyDry C htr hx hX hbl hbA (by omega) (by omega) hn hcl hsl (by omega) (by omega) r kont)
  · exact j_tabIn (pc := 39) C 1259 (off := 1220) dL_law_39 (by decide +kernel) (by decide +kernel) (by decide +kernel) (by decide) (lw_surelyDamp C htr hx hX hbl hbA (by omega) (by omega) hn hcl hsl (by omega) (by omega) r kont)
  · exact j_tabIn (pc := 39) C 1272 (off := 1233) dL_law_39 (by decide +kernel) (by decide +kernel) (by decide +kernel) (by decide) (lw_worstLayer C htr hx hX hbl hbA (by omega) (by omega) hn hcl hsl (by omega) (by omega) r kont)
  · exact j_tabIn (pc := 39) C 1316 (off := 1277) dL_law_39 (by decide +kernel) (by decide +kernel) (by decide +kernel) (by decide) (lw_doubt C htr hx hX hbl hbA (by omega) (by omega) hn hcl hsl (by omega) (by omega) r kont)
  · exact j_tabIn (pc := 39) C 1329 (off := 1290) dL_law_39 (by decide +kernel) (by decide +kernel) (by decide +kernel) (by decide) (lw_leastSum C htr hx hX hbl hbA (by omega) (by omega) hn hcl hsl (by omega) (by omega) r kont)
  · exact j_tabIn (pc := 39) C 1397 (off := 1358) dL_law_39 (by decide +kernel) (by decide +kernel) (by decide +kernel) (by decide) (lw_greatestSum C htr hx hX hbl hbA (by omega) (by omega) hn hcl hsl (by omega) (by omega) r kont)
  · exact j_tabIn (pc := 39) C 1465 (off := 1426) dL_law_39 (by decide +kernel) (by decide +kernel) (by decide +kernel) (by decide) (lw_doubtBehind C htr hx hX hbl hbA (by omega) (by omega) hn hcl hsl (by omega) (by omega) r kont)
  · exact j_tabIn (pc := 39) C 1533 (off := 1494) dL_law_39 (by decide +kernel) (by decide +kernel) (by decide +kernel) (by decide) (lw_bestToLookAt C htr hx hX hbl hbA (by omega) (by omega) hn hcl hsl (by omega) (by omega) r kont)
  · exact j_tabIn (pc := 39) C 1577 (off := 1538) dL_law_39 (by decide +kernel) (by decide +kernel) (by decide +kernel) (by decide) (lw_dampnessIn C htr hx hX hbl hbA (by omega) (by omega) hn hcl hsl (by omega) (by omega) r kont)
  · exact j_tabIn (pc := 39) C 1645 (off := 1606) dL_law_39 (by decide +kernel) (by decide +kernel) (by decide +kernel) (by decide) (lw_daysUntilEven C htr hx hX hbl hbA (by omega) (by omega) hn hcl hsl (by omega) (by omega) r kont)
  · exact j_tabIn (pc := 39) C 1658 (off := 1619) dL_law_39 (by decide +kernel) (by decide +kernel) (by decide +kernel) (by decide) (lw_meanDampness C htr hx hX hbl hbA (by omega) (by omega) hn hcl hsl (by omega) (by omega) r kont)
  · exact j_tabIn (pc := 39) C 1699 (off := 1660) dL_law_39 (by decide +kernel) (by decide +kernel) (by decide +kernel) (by decide) (lw_digest C htr hx hX hbl hbA (by omega) (by omega) hn hcl hsl (by omega) (by omega) r kont)
  · refine j_tabOut (pc := 39) C 1713 dL_law_39 (Or.inr (by rw [nI_toInt (by omega)]; omega)) (by decide) ?_
    exact J.widen (Nat.le_succ _) (Nat.le_add_right _ 9) (kont _ ⟨_, _, _, _, _, _, _, _, _, _, _, _, _, _, _, _, _, _, _, _, _, _, _, _, _, _, rfl, r.up⟩)
theorem lw_loop {p : Program} {l : Launch} {e : Env} {s : State} {m : MethodId} {below : List Frame} {meth : Method} {c : Code} {D : va_G} {c1 c2 c3 : ClassId} {h k : Nat → Nat} {o9 sb n : Nat} {xs : Nat → Int32} (C : GC p s m #[Value.ref sb] meth c cL_law 9 RL wsL_law D (tyS c1 c2 c3) (fun q : Nat => s.heap.size ≤ q)) (hr : meth.sig.returnType = ret) (htr : l.stackTraces = false) (hx : xF (fun q : Nat => s.heap.size ≤ q) s s.heap) (hX : va_X sb n xs s s.heap) (hbl : sb < s.heap.size) (hn : n ≤ 1536) : ∀ (q T : Nat), T + q = 512 → ∀ w, LI (T : Int) c1 c2 c3 h k o9 w → J p l e room_1 s m #[Value.ref sb] below meth c 9 D (fun q : Nat => s.heap.size ≤ q) (100 + T) (1000 + 9 * T) (lw_Z below #[Value.ref sb] s) w [(0, .ref sb), (1, .ref (h 0)), (2, .ref (k 0)), (3, .ref o9), (4, .int (zI (3 * (T : Int))))] 23 [] := by
  intro q
  induction q with
  | zero =>
    intro T hq w hw
    exact lw_step C hr htr hx hX hbl hn (by omega) hw (fun h9 => absurd h9 (by omega))
  | succ q ih =>
    intro T hq w hw
    refine lw_step C hr htr hx hX hbl hn (by omega) hw (fun _ w hw => ?_)
    refine j_iinc (pc := 1713) C dL_law_1713 4 rfl (by decide) [1, 2, 3, 4, 0] rfl ?_
    refine j_goto (pc := 1716) C 23 dL_law_1716 (by decide) ?_
    have e1 : ((T + 1 : Nat) : Int) = (T : Int) + 1 := by omega
    have e2 : 3 * (T : Int) + 3 = 3 * ((T + 1 : Nat) : Int) := by omega
    rw [e2]
    exact J.widen (Nat.le_refl _) (by omega) (ih (T + 1) (by omega) w (by rw [e1]; exact hw))
