/-! ===== GrainSilo: leaves ===== -/
set_option maxHeartbeats 4000000 in
set_option maxRecDepth 100000 in
theorem kX0_isKind (l : Launch) (D : va_G) (c1 c2 c3 : ClassId) (a : Int) (ha : zR a) : cI l yX0_isKind wsX0_isKind ({ frames := 0, cells := 0, slots := 0, locals := 0 }) D (tyS c1 c2 c3) [.int (zI a)] ([]) ([]) (zI (if 0 ≤ a ∧ a ≤ 4 then 1 else 0)) 0 0 := by
  refine cI.of (cc := cX0_isKind) (maxL := 1) (ret := .boolean) (by decide) rfl (lv := [(0, .int (zI a))]) [0] rfl (Nat.le_of_ble_eq_true rfl) ?_
  intro p e s m args below meth c A C hr
  have C : GC p s m args meth c cX0_isKind 1 RX0 wsX0_isKind D (tyS c1 c2 c3) A := C
  obtain ⟨ha1, ha2⟩ := ha
  refine j_iload_n (pc := 0) C dX0_isKind_0 0 rfl ?_
  refine j_if_lt (pc := 1) C 13 dX0_isKind_1 (by decide) ⟨by omega, by omega⟩ (fun c_1 => ?_) (fun c_1 => ?_)
  · skip
    refine j_iconst (pc := 13) C dX0_isKind_13 ?_
    exact j_zret (pc := 14) C hr dX0_isKind_14 rfl (by first | rfl | rw [if_pos (by omega)] | rw [if_neg (by omega)]) (by rfl) (by decide) (by decide)
  · skip
    refine j_iload_n (pc := 4) C dX0_isKind_4 0 rfl ?_
    refine j_iconst (pc := 5) C dX0_isKind_5 ?_
    refine j_icmp_gt (pc := 6) C 13 dX0_isKind_6 (by decide) ⟨by omega, by omega⟩ ⟨by omega, by omega⟩ (fun c_6 => ?_) (fun c_6 => ?_)
    · skip
      refine j_iconst (pc := 13) C dX0_isKind_13 ?_
      exact j_zret (pc := 14) C hr dX0_isKind_14 rfl (by first | rfl | rw [if_pos (by omega)] | rw [if_neg (by omega)]) (by rfl) (by decide) (by decide)
    · skip
      refine j_iconst (pc := 9) C dX0_isKind_9 ?_
      refine j_goto (pc := 10) C 14 dX0_isKind_10 (by decide) ?_
      exact j_zret (pc := 14) C hr dX0_isKind_14 rfl (by first | rfl | rw [if_pos (by omega)] | rw [if_neg (by omega)]) (by rfl) (by decide) (by decide)
set_option maxHeartbeats 4000000 in
set_option maxRecDepth 100000 in
theorem kX0_isDampness (l : Launch) (D : va_G) (c1 c2 c3 : ClassId) (a : Int) (ha : zR a) : cI l yX0_isDampness wsX0_isDampness ({ frames := 0, cells := 0, slots := 0, locals := 0 }) D (tyS c1 c2 c3) [.int (zI a)] ([]) ([]) (zI (if 0 ≤ a ∧ a ≤ 40 then 1 else 0)) 0 0 := by
  refine cI.of (cc := cX0_isDampness) (maxL := 1) (ret := .boolean) (by decide) rfl (lv := [(0, .int (zI a))]) [0] rfl (Nat.le_of_ble_eq_true rfl) ?_
  intro p e s m args below meth c A C hr
  have C : GC p s m args meth c cX0_isDampness 1 RX0 wsX0_isDampness D (tyS c1 c2 c3) A := C
  obtain ⟨ha1, ha2⟩ := ha
  refine j_iload_n (pc := 0) C dX0_isDampness_0 0 rfl ?_
  refine j_if_lt (pc := 1) C 14 dX0_isDampness_1 (by decide) ⟨by omega, by omega⟩ (fun c_1 => ?_) (fun c_1 => ?_)
  · skip
    refine j_iconst (pc := 14) C dX0_isDampness_14 ?_
    exact j_zret (pc := 15) C hr dX0_isDampness_15 rfl (by first | rfl | rw [if_pos (by omega)] | rw [if_neg (by omega)]) (by rfl) (by decide) (by decide)
  · skip
    refine j_iload_n (pc := 4) C dX0_isDampness_4 0 rfl ?_
    refine j_bipush (pc := 5) C dX0_isDampness_5 (by decide +kernel) ?_
    refine j_icmp_gt (pc := 7) C 14 dX0_isDampness_7 (by decide) ⟨by omega, by omega⟩ ⟨by omega, by omega⟩ (fun c_7 => ?_) (fun c_7 => ?_)
    · skip
      refine j_iconst (pc := 14) C dX0_isDampness_14 ?_
      exact j_zret (pc := 15) C hr dX0_isDampness_15 rfl (by first | rfl | rw [if_pos (by omega)] | rw [if_neg (by omega)]) (by rfl) (by decide) (by decide)
    · skip
      refine j_iconst (pc := 10) C dX0_isDampness_10 ?_
      refine j_goto (pc := 11) C 15 dX0_isDampness_11 (by decide) ?_
      exact j_zret (pc := 15) C hr dX0_isDampness_15 rfl (by first | rfl | rw [if_pos (by omega)] | rw [if_neg (by omega)]) (by rfl) (by decide) (by decide)
set_option maxHeartbeats 4000000 in
set_option maxRecDepth 100000 in
theorem kX0_isDamp (l : Launch) (D : va_G) (h : Nat → Nat) (c1 c2 c3 : ClassId) (K Dm : Int → Int) (L : Int) (lo hi su db : Int → Int) (S dy li so sp : Int) (tu ah : Int → Int) (M : Int → Int → Int) (a : Int) (ha : zR a) (hl : zR li) : cI l yX0_isDamp wsX0_isDamp ({ frames := 0, cells := 0, slots := 0, locals := 0 }) D (tyS c1 c2 c3) [.ref (h 0), .int (zI a)] (wG h c1 c2 K Dm L lo hi su db S dy li so sp tu ah M) (wG h c1 c2 K Dm L lo hi su db S dy li so sp tu ah M) (zI (if li < a then 1 else 0)) 0 0 := by
  refine cI.of (cc := cX0_isDamp) (maxL := 2) (ret := .boolean) (by decide) rfl (lv := [(0, .ref (h 0)), (1, .int (zI a))]) [0, 1] rfl (Nat.le_of_ble_eq_true rfl) ?_
  intro p e s m args below meth c A C hr
  have C : GC p s m args meth c cX0_isDamp 2 RX0 wsX0_isDamp D (tyS c1 c2 c3) A := C
  have hin : ∀ w ∈ wsX00, w ∈ wsX0_isDamp := fun _ h => List.mem_cons_of_mem _ (List.mem_append_right _ h)
  obtain ⟨ha1, ha2⟩ := ha
  obtain ⟨hl1, hl2⟩ := hl
  refine j_iload_n (pc := 0) C dX0_isDamp_0 1 rfl ?_
  refine j_aload_n (pc := 1) C dX0_isDamp_1 0 rfl ?_
  refine j_get (pc := 2) C (ref := "GrainSilo") (T := TX0) (N := 15) hin 0 rfl rfl 9 (by decide) (C.w 1 rfl) rfl rfl dX0_isDamp_2 ?_
  refine j_icmp_le (pc := 5) C 12 dX0_isDamp_5 (by decide) ⟨by omega, by omega⟩ ⟨by omega, by omega⟩ (fun c_5 => ?_) (fun c_5 => ?_)
  · skip
    refine j_iconst (pc := 12) C dX0_isDamp_12 ?_
    exact j_zret (pc := 13) C hr dX0_isDamp_13 rfl (by first | rfl | rw [if_pos (by omega)] | rw [if_neg (by omega)]) (by rfl) (by decide) (by decide)
  · skip
    refine j_iconst (pc := 8) C dX0_isDamp_8 ?_
    refine j_goto (pc := 9) C 13 dX0_isDamp_9 (by decide) ?_
    exact j_zret (pc := 13) C hr dX0_isDamp_13 rfl (by first | rfl | rw [if_pos (by omega)] | rw [if_neg (by omega)]) (by rfl) (by decide) (by decide)
set_option maxHeartbeats 4000000 in
set_option maxRecDepth 100000 in
theorem kX0_samples (l : Launch) (D : va_G) (h : Nat → Nat) (c1 c2 c3 : ClassId) (K Dm : Int → Int) (L : Int) (lo hi su db : Int → Int) (S dy li so sp : Int) (tu ah : Int → Int) (M : Int → Int → Int)  : cI l yX0_samples wsX0_samples ({ frames := 0, cells := 0, slots := 0, locals := 0 }) D (tyS c1 c2 c3) [.ref (h 0)] (wG h c1 c2 K Dm L lo hi su db S dy li so sp tu ah M) (wG h c1 c2 K Dm L lo hi su db S dy li so sp tu ah M) (zI S) 0 0 := by
  refine cI.of (cc := cX0_samples) (maxL := 1) (ret := .int) (by decide) rfl (lv := [(0, .ref (h 0))]) [0] rfl (Nat.le_of_ble_eq_true rfl) ?_
  intro p e s m args below meth c A C hr
  have C : GC p s m args meth c cX0_samples 1 RX0 wsX0_samples D (tyS c1 c2 c3) A := C
  have hin : ∀ w ∈ wsX00, w ∈ wsX0_samples := fun _ h => List.mem_cons_of_mem _ (List.mem_append_right _ h)
  refine j_aload_n (pc := 0) C dX0_samples_0 0 rfl ?_
  refine j_get (pc := 1) C (ref := "GrainSilo") (T := TX0) (N := 15) hin 0 rfl rfl 7 (by decide) (C.w 1 rfl) rfl rfl dX0_samples_1 ?_
  exact j_iret (pc := 4) C hr dX0_samples_4 (by rfl) (by rfl) (by decide) (by decide)
set_option maxHeartbeats 4000000 in
set_option maxRecDepth 100000 in
theorem kX0_layers (l : Launch) (D : va_G) (h : Nat → Nat) (c1 c2 c3 : ClassId) (K Dm : Int → Int) (L : Int) (lo hi su db : Int → Int) (S dy li so sp : Int) (tu ah : Int → Int) (M : Int → Int → Int)  : cI l yX0_layers wsX0_layers ({ frames := 0, cells := 0, slots := 0, locals := 0 }) D (tyS c1 c2 c3) [.ref (h 0)] (wG h c1 c2 K Dm L lo hi su db S dy li so sp tu ah M) (wG h c1 c2 K Dm L lo hi su db S dy li so sp tu ah M) (zI L) 0 0 := by
  refine cI.of (cc := cX0_layers) (maxL := 1) (ret := .int) (by decide) rfl (lv := [(0, .ref (h 0))]) [0] rfl (Nat.le_of_ble_eq_true rfl) ?_
  intro p e s m args below meth c A C hr
  have C : GC p s m args meth c cX0_layers 1 RX0 wsX0_layers D (tyS c1 c2 c3) A := C
  have hin : ∀ w ∈ wsX00, w ∈ wsX0_layers := fun _ h => List.mem_cons_of_mem _ (List.mem_append_right _ h)
  refine j_aload_n (pc := 0) C dX0_layers_0 0 rfl ?_
  refine j_get (pc := 1) C (ref := "GrainSilo") (T := TX0) (N := 15) hin 0 rfl rfl 2 (by decide) (C.w 1 rfl) rfl rfl dX0_layers_1 ?_
  exact j_iret (pc := 4) C hr dX0_layers_4 (by rfl) (by rfl) (by decide) (by decide)
set_option maxHeartbeats 4000000 in
set_option maxRecDepth 100000 in
theorem kX0_day (l : Launch) (D : va_G) (h : Nat → Nat) (c1 c2 c3 : ClassId) (K Dm : Int → Int) (L : Int) (lo hi su db : Int → Int) (S dy li so sp : Int) (tu ah : Int → Int) (M : Int → Int → Int)  : cI l yX0_day wsX0_day ({ frames := 0, cells := 0, slots := 0, locals := 0 }) D (tyS c1 c2 c3) [.ref (h 0)] (wG h c1 c2 K Dm L lo hi su db S dy li so sp tu ah M) (wG h c1 c2 K Dm L lo hi su db S dy li so sp tu ah M) (zI dy) 0 0 := by
  refine cI.of (cc := cX0_day) (maxL := 1) (ret := .int) (by decide) rfl (lv := [(0, .ref (h 0))]) [0] rfl (Nat.le_of_ble_eq_true rfl) ?_
  intro p e s m args below meth c A C hr
  have C : GC p s m args meth c cX0_day 1 RX0 wsX0_day D (tyS c1 c2 c3) A := C
  have hin : ∀ w ∈ wsX00, w ∈ wsX0_day := fun _ h => List.mem_cons_of_mem _ (List.mem_append_right _ h)
  refine j_aload_n (pc := 0) C dX0_day_0 0 rfl ?_
  refine j_get (pc := 1) C (ref := "GrainSilo") (T := TX0) (N := 15) hin 0 rfl rfl 8 (by decide) (C.w 1 rfl) rfl rfl dX0_day_1 ?_
  exact j_iret (pc := 4) C hr dX0_day_4 (by rfl) (by rfl) (by decide) (by decide)
set_option maxHeartbeats 4000000 in
set_option maxRecDepth 100000 in
theorem kX0_limit (l : Launch) (D : va_G) (h : Nat → Nat) (c1 c2 c3 : ClassId) (K Dm : Int → Int) (L : Int) (lo hi su db : Int → Int) (S dy li so sp : Int) (tu ah : Int → Int) (M : Int → Int → Int)  : cI l yX0_limit wsX0_limit ({ frames := 0, cells := 0, slots := 0, locals := 0 }) D (tyS c1 c2 c3) [.ref (h 0)] (wG h c1 c2 K Dm L lo hi su db S dy li so sp tu ah M) (wG h c1 c2 K Dm L lo hi su db S dy li so sp tu ah M) (zI li) 0 0 := by
  refine cI.of (cc := cX0_limit) (maxL := 1) (ret := .int) (by decide) rfl (lv := [(0, .ref (h 0))]) [0] rfl (Nat.le_of_ble_eq_true rfl) ?_
  intro p e s m args below meth c A C hr
  have C : GC p s m args meth c cX0_limit 1 RX0 wsX0_limit D (tyS c1 c2 c3) A := C
  have hin : ∀ w ∈ wsX00, w ∈ wsX0_limit := fun _ h => List.mem_cons_of_mem _ (List.mem_append_right _ h)
  refine j_aload_n (pc := 0) C dX0_limit_0 0 rfl ?_
  refine j_get (pc := 1) C (ref := "GrainSilo") (T := TX0) (N := 15) hin 0 rfl rfl 9 (by decide) (C.w 1 rfl) rfl rfl dX0_limit_1 ?_
  exact j_iret (pc := 4) C hr dX0_limit_4 (by rfl) (by rfl) (by decide) (by decide)
set_option maxHeartbeats 4000000 in
set_option maxRecDepth 100000 in
theorem kX0_sold (l : Launch) (D : va_G) (h : Nat → Nat) (c1 c2 c3 : ClassId) (K Dm : Int → Int) (L : Int) (lo hi su db : Int → Int) (S dy li so sp : Int) (tu ah : Int → Int) (M : Int → Int → Int)  : cI l yX0_sold wsX0_sold ({ frames := 0, cells := 0, slots := 0, locals := 0 }) D (tyS c1 c2 c3) [.ref (h 0)] (wG h c1 c2 K Dm L lo hi su db S dy li so sp tu ah M) (wG h c1 c2 K Dm L lo hi su db S dy li so sp tu ah M) (zI so) 0 0 := by
  refine cI.of (cc := cX0_sold) (maxL := 1) (ret := .int) (by decide) rfl (lv := [(0, .ref (h 0))]) [0] rfl (Nat.le_of_ble_eq_true rfl) ?_
  intro p e s m args below meth c A C hr
  have C : GC p s m args meth c cX0_sold 1 RX0 wsX0_sold D (tyS c1 c2 c3) A := C
  have hin : ∀ w ∈ wsX00, w ∈ wsX0_sold := fun _ h => List.mem_cons_of_mem _ (List.mem_append_right _ h)
  refine j_aload_n (pc := 0) C dX0_sold_0 0 rfl ?_
  refine j_get (pc := 1) C (ref := "GrainSilo") (T := TX0) (N := 15) hin 0 rfl rfl 10 (by decide) (C.w 1 rfl) rfl rfl dX0_sold_1 ?_
  exact j_iret (pc := 4) C hr dX0_sold_4 (by rfl) (by rfl) (by decide) (by decide)
set_option maxHeartbeats 4000000 in
set_option maxRecDepth 100000 in
theorem kX0_spoilt (l : Launch) (D : va_G) (h : Nat → Nat) (c1 c2 c3 : ClassId) (K Dm : Int → Int) (L : Int) (lo hi su db : Int → Int) (S dy li so sp : Int) (tu ah : Int → Int) (M : Int → Int → Int)  : cI l yX0_spoilt wsX0_spoilt ({ frames := 0, cells := 0, slots := 0, locals := 0 }) D (tyS c1 c2 c3) [.ref (h 0)] (wG h c1 c2 K Dm L lo hi su db S dy li so sp tu ah M) (wG h c1 c2 K Dm L lo hi su db S dy li so sp tu ah M) (zI sp) 0 0 := by
  refine cI.of (cc := cX0_spoilt) (maxL := 1) (ret := .int) (by decide) rfl (lv := [(0, .ref (h 0))]) [0] rfl (Nat.le_of_ble_eq_true rfl) ?_
  intro p e s m args below meth c A C hr
  have C : GC p s m args meth c cX0_spoilt 1 RX0 wsX0_spoilt D (tyS c1 c2 c3) A := C
  have hin : ∀ w ∈ wsX00, w ∈ wsX0_spoilt := fun _ h => List.mem_cons_of_mem _ (List.mem_append_right _ h)
  refine j_aload_n (pc := 0) C dX0_spoilt_0 0 rfl ?_
  refine j_get (pc := 1) C (ref := "GrainSilo") (T := TX0) (N := 15) hin 0 rfl rfl 11 (by decide) (C.w 1 rfl) rfl rfl dX0_spoilt_1 ?_
  exact j_iret (pc := 4) C hr dX0_spoilt_4 (by rfl) (by rfl) (by decide) (by decide)
set_option maxHeartbeats 4000000 in
set_option maxRecDepth 100000 in
theorem kX0_putOnTop (l : Launch) (D : va_G) (h : Nat → Nat) (c1 c2 c3 : ClassId) (K Dm : Int → Int) (L : Int) (lo hi su db : Int → Int) (S dy li so sp : Int) (tu ah : Int → Int) (M : Int → Int → Int) (a b : Int) (hL0 : 0 ≤ L) (hL : L < 12) : cI l yX0_putOnTop wsX0_putOnTop ({ frames := 0, cells := 0, slots := 0, locals := 0 }) D (tyS c1 c2 c3) [.ref (h 0), .int (zI a), .int (zI b)] (wG h c1 c2 K Dm L lo hi su db S dy li so sp tu ah M) (wG h c1 c2 (upZ K L a) (upZ Dm L b) (L + 1) lo hi su db S dy li so sp tu ah M) (zI L) 0 0 := by
  refine cI.of (cc := cX0_putOnTop) (maxL := 4) (ret := .int) (by decide) rfl (lv := [(0, .ref (h 0)), (1, .int (zI a)), (2, .int (zI b))]) [0, 1, 2] rfl (Nat.le_of_ble_eq_true rfl) ?_
  intro p e s m args below meth c A C hr
  have C : GC p s m args meth c cX0_putOnTop 4 RX0 wsX0_putOnTop D (tyS c1 c2 c3) A := C
  have hin : ∀ w ∈ wsX00, w ∈ wsX0_putOnTop := fun _ h => List.mem_cons_of_mem _ (List.mem_append_right _ h)
  refine j_aload_n (pc := 0) C dX0_putOnTop_0 0 rfl ?_
  refine j_get (pc := 1) C (ref := "GrainSilo") (T := TX0) (N := 15) hin 0 rfl rfl 2 (by decide) (C.w 1 rfl) rfl rfl dX0_putOnTop_1 ?_
  refine j_istore_n (pc := 4) C (lv' := [(0, .ref (h 0)), (1, .int (zI a)), (2, .int (zI b)), (3, .int (zI L))]) dX0_putOnTop_4 (by decide) [1, 2, 3, 0] rfl ?_
  refine j_aload_n (pc := 5) C dX0_putOnTop_5 0 rfl ?_
  refine j_get (pc := 6) C (ref := "GrainSilo") (T := TX0) (N := 15) hin 0 rfl rfl 0 (by decide) (C.w 2 rfl) rfl rfl dX0_putOnTop_6 ?_
  refine j_iload_n (pc := 9) C dX0_putOnTop_9 3 rfl ?_
  refine j_iload_n (pc := 10) C dX0_putOnTop_10 1 rfl ?_
  refine j_iast (pc := 11) C 1 0 rfl rfl (by omega) (by omega) (by decide) (ws' := wG h c1 c2 (upZ K L a) Dm L lo hi su db S dy li so sp tu ah M) rfl dX0_putOnTop_11 ?_
  refine j_aload_n (pc := 12) C dX0_putOnTop_12 0 rfl ?_
  refine j_get (pc := 13) C (ref := "GrainSilo") (T := TX0) (N := 15) hin 0 rfl rfl 1 (by decide) (C.w 3 rfl) rfl rfl dX0_putOnTop_13 ?_
  refine j_iload_n (pc := 16) C dX0_putOnTop_16 3 rfl ?_
  refine j_iload_n (pc := 17) C dX0_putOnTop_17 2 rfl ?_
  refine j_iast (pc := 18) C 2 0 rfl rfl (by omega) (by omega) (by decide) (ws' := wG h c1 c2 (upZ K L a) (upZ Dm L b) L lo hi su db S dy li so sp tu ah M) rfl dX0_putOnTop_18 ?_
  refine j_aload_n (pc := 19) C dX0_putOnTop_19 0 rfl ?_
  refine j_dup (pc := 20) C dX0_putOnTop_20 rfl ?_
  refine j_get (pc := 21) C (ref := "GrainSilo") (T := TX0) (N := 15) hin 0 rfl rfl 2 (by decide) (C.w 1 rfl) rfl rfl dX0_putOnTop_21 ?_
  refine j_iconst (pc := 24) C dX0_putOnTop_24 ?_
  refine j_iadd (pc := 25) C dX0_putOnTop_25 ?_
  refine j_put (pc := 26) C (ref := "GrainSilo") (T := TX0) (N := 15) (ws' := wG h c1 c2 (upZ K L a) (upZ Dm L b) (L + 1) lo hi su db S dy li so sp tu ah M) hin tyX0 tyX0_ok nmX0 0 rfl rfl 2 (by decide) (C.w 1 rfl) rfl rfl (by decide +kernel) (Nat.le_of_ble_eq_true rfl) rfl dX0_putOnTop_26 ?_
  refine j_iload_n (pc := 29) C dX0_putOnTop_29 3 rfl ?_
  exact j_iret (pc := 30) C hr dX0_putOnTop_30 (by rfl) (by rfl) (by decide) (by decide)
set_option maxHeartbeats 4000000 in
set_option maxRecDepth 100000 in
theorem kX0_countOut (l : Launch) (D : va_G) (h : Nat → Nat) (c1 c2 c3 : ClassId) (K Dm : Int → Int) (L : Int) (lo hi su db : Int → Int) (S dy li so sp : Int) (tu ah : Int → Int) (M : Int → Int → Int) (a : Int) (ha : zR a) (hl : zR li) : cV l yX0_countOut wsX0_countOut ({ frames := 1, cells := 0, slots := 0, locals := 21 }) D (tyS c1 c2 c3) [.ref (h 0), .int (zI a)] (wG h c1 c2 K Dm L lo hi su db S dy li so sp tu ah M) (wG h c1 c2 K Dm L lo hi su db S dy li (if li < a then so else so + 1) (if li < a then sp + 1 else sp) tu ah M) 0 0 := by
  refine cV.of (cc := cX0_countOut) (maxL := 2) (by decide) rfl (lv := [(0, .ref (h 0)), (1, .int (zI a))]) [0, 1] rfl (Nat.le_of_ble_eq_true rfl) ?_
  intro p e s m args below meth c A C hr
  have C : GC p s m args meth c cX0_countOut 2 RX0 wsX0_countOut D (tyS c1 c2 c3) A := C
  have hin : ∀ w ∈ wsX00, w ∈ wsX0_countOut := fun _ h => List.mem_cons_of_mem _ (List.mem_append_right _ h)
  obtain ⟨ha1, ha2⟩ := ha
  obtain ⟨hl1, hl2⟩ := hl
  refine j_aload_n (pc := 0) C dX0_countOut_0 0 rfl ?_
  refine j_iload_n (pc := 1) C dX0_countOut_1 1 rfl ?_
  refine j_callI (pc := 2) C (As := [.int (zI a)]) (rest := []) (kX0_isDamp l D h c1 c2 c3 K Dm L lo hi su db S dy li so sp tu ah M a ⟨by omega, by omega⟩ ⟨by omega, by omega⟩) (cwV 1 C.2.2.2.2.1 gX0_countOut_X0_isDamp rfl rfl rfl (by decide +kernel) ⟨Nat.le_of_ble_eq_true rfl, Nat.le_of_ble_eq_true rfl⟩) 0 (ci := 0) rfl rfl rfl dX0_countOut_2 rfl rfl (by decide) (by decide) ?_
  refine j_if_eq (pc := 5) C 21 dX0_countOut_5 (by decide) (by split <;> exact ⟨by omega, by omega⟩) (fun c_5 => ?_) (fun c_5 => ?_)
  · skip
    have c_5 : ¬ li < a := by intro h; rw [if_pos h] at c_5; omega
    refine j_aload_n (pc := 21) C dX0_countOut_21 0 rfl ?_
    refine j_dup (pc := 22) C dX0_countOut_22 rfl ?_
    refine j_get (pc := 23) C (ref := "GrainSilo") (T := TX0) (N := 15) hin 0 rfl rfl 10 (by decide) (C.w 2 rfl) rfl rfl dX0_countOut_23 ?_
    refine j_iconst (pc := 26) C dX0_countOut_26 ?_
    refine j_iadd (pc := 27) C dX0_countOut_27 ?_
    refine j_put (pc := 28) C (ref := "GrainSilo") (T := TX0) (N := 15) (ws' := wG h c1 c2 K Dm L lo hi su db S dy li (so + 1) sp tu ah M) hin tyX0 tyX0_ok nmX0 0 rfl rfl 10 (by decide) (C.w 2 rfl) rfl rfl (by decide +kernel) (Nat.le_of_ble_eq_true rfl) rfl dX0_countOut_28 ?_
    exact j_vret (pc := 31) C hr dX0_countOut_31 (by first | rw [if_pos c_5, if_pos c_5] | rw [if_neg c_5, if_neg c_5]) (by decide) (by decide)
  · skip
    have c_5 : li < a := by apply Decidable.byContradiction; intro h; rw [if_neg h] at c_5; exact c_5 rfl
    refine j_aload_n (pc := 8) C dX0_countOut_8 0 rfl ?_
    refine j_dup (pc := 9) C dX0_countOut_9 rfl ?_
    refine j_get (pc := 10) C (ref := "GrainSilo") (T := TX0) (N := 15) hin 0 rfl rfl 11 (by decide) (C.w 1 rfl) rfl rfl dX0_countOut_10 ?_
    refine j_iconst (pc := 13) C dX0_countOut_13 ?_
    refine j_iadd (pc := 14) C dX0_countOut_14 ?_
    refine j_put (pc := 15) C (ref := "GrainSilo") (T := TX0) (N := 15) (ws' := wG h c1 c2 K Dm L lo hi su db S dy li so (sp + 1) tu ah M) hin tyX0 tyX0_ok nmX0 0 rfl rfl 11 (by decide) (C.w 1 rfl) rfl rfl (by decide +kernel) (Nat.le_of_ble_eq_true rfl) rfl dX0_countOut_15 ?_
    refine j_goto (pc := 18) C 31 dX0_countOut_18 (by decide) ?_
    exact j_vret (pc := 31) C hr dX0_countOut_31 (by first | rw [if_pos c_5, if_pos c_5] | rw [if_neg c_5, if_neg c_5]) (by decide) (by decide)
set_option maxHeartbeats 4000000 in
set_option maxRecDepth 100000 in
theorem kX0_lowerLayers (l : Launch) (D : va_G) (h : Nat → Nat) (c1 c2 c3 : ClassId) (K Dm : Int → Int) (L : Int) (lo hi su db : Int → Int) (S dy li so sp : Int) (tu ah : Int → Int) (M : Int → Int → Int) (hL0 : 1 ≤ L) (hL : L ≤ 12) : cV l yX0_lowerLayers wsX0_lowerLayers ({ frames := 0, cells := 0, slots := 0, locals := 0 }) D (tyS c1 c2 c3) [.ref (h 0)] (wG h c1 c2 K Dm L lo hi su db S dy li so sp tu ah M) (wG h c1 c2 (shf K L) (shf Dm L) (L - 1) lo hi su db S dy li so sp tu ah M) 0 0 := by
  refine cV.of (cc := cX0_lowerLayers) (maxL := 2) (by decide) rfl (lv := [(0, .ref (h 0))]) [0] rfl (Nat.le_of_ble_eq_true rfl) ?_
  intro p e s m args below meth c A C hr
  have C : GC p s m args meth c cX0_lowerLayers 2 RX0 wsX0_lowerLayers D (tyS c1 c2 c3) A := C
  have hin : ∀ w ∈ wsX00, w ∈ wsX0_lowerLayers := fun _ h => List.mem_cons_of_mem _ (List.mem_append_right _ h)
  refine j_iconst (pc := 0) C dX0_lowerLayers_0 ?_
  refine j_istore_n (pc := 1) C (lv' := [(0, .ref (h 0)), (1, .int (zI 1))]) dX0_lowerLayers_1 (by decide) [1, 0] rfl ?_
  refine J.cast (ws' := wG h c1 c2 (shf K 1) (shf Dm 1) L lo hi su db S dy li so sp tu ah M) (lv' := [(0, .ref (h 0)), (1, .int (zI 1))]) ?_ (by simp only [shf_1]) (by rfl) rfl
  refine j_up (fun i : Int => wG h c1 c2 (shf K i) (shf Dm i) L lo hi su db S dy li so sp tu ah M) (fun i : Int => [(0, .ref (h 0)), (1, .int (zI i))]) (fun i : Int => True) 1 L (by omega) trivial ?_ ?_
  · intro i h0_2 h1_2 hI_2 hk_2
    try dsimp only at hI_2 hk_2 ⊢
    refine j_iload_n (pc := 2) C dX0_lowerLayers_2 1 rfl ?_
    refine j_aload_n (pc := 3) C dX0_lowerLayers_3 0 rfl ?_
    refine j_get (pc := 4) C (ref := "GrainSilo") (T := TX0) (N := 15) hin 0 rfl rfl 2 (by decide) (C.w 1 rfl) rfl rfl dX0_lowerLayers_4 ?_
    refine j_icmp_ge (pc := 7) C 44 dX0_lowerLayers_7 (by decide) ⟨by omega, by omega⟩ ⟨by omega, by omega⟩ (fun c_7 => absurd c_7 (by omega)) (fun c_7 => ?_)
    refine j_aload_n (pc := 10) C dX0_lowerLayers_10 0 rfl ?_
    refine j_get (pc := 11) C (ref := "GrainSilo") (T := TX0) (N := 15) hin 0 rfl rfl 0 (by decide) (C.w 2 rfl) rfl rfl dX0_lowerLayers_11 ?_
    refine j_iload_n (pc := 14) C dX0_lowerLayers_14 1 rfl ?_
    refine j_iconst (pc := 15) C dX0_lowerLayers_15 ?_
    refine j_isub (pc := 16) C dX0_lowerLayers_16 ?_
    refine j_aload_n (pc := 17) C dX0_lowerLayers_17 0 rfl ?_
    refine j_get (pc := 18) C (ref := "GrainSilo") (T := TX0) (N := 15) hin 0 rfl rfl 0 (by decide) (C.w 2 rfl) rfl rfl dX0_lowerLayers_18 ?_
    refine j_iload_n (pc := 21) C dX0_lowerLayers_21 1 rfl ?_
    refine j_iald (pc := 22) C 1 0 rfl rfl (by omega) (by omega) (by decide) dX0_lowerLayers_22 ?_
    refine j_iast (pc := 23) C 1 0 rfl rfl (by omega) (by omega) (by decide) (ws' := wG h c1 c2 (upZ (shf K i) (i - 1) ((shf K i) i)) (shf Dm i) L lo hi su db S dy li so sp tu ah M) rfl dX0_lowerLayers_23 ?_
    refine j_aload_n (pc := 24) C dX0_lowerLayers_24 0 rfl ?_
    refine j_get (pc := 25) C (ref := "GrainSilo") (T := TX0) (N := 15) hin 0 rfl rfl 1 (by decide) (C.w 3 rfl) rfl rfl dX0_lowerLayers_25 ?_
    refine j_iload_n (pc := 28) C dX0_lowerLayers_28 1 rfl ?_
    refine j_iconst (pc := 29) C dX0_lowerLayers_29 ?_
    refine j_isub (pc := 30) C dX0_lowerLayers_30 ?_
    refine j_aload_n (pc := 31) C dX0_lowerLayers_31 0 rfl ?_
    refine j_get (pc := 32) C (ref := "GrainSilo") (T := TX0) (N := 15) hin 0 rfl rfl 1 (by decide) (C.w 3 rfl) rfl rfl dX0_lowerLayers_32 ?_
    refine j_iload_n (pc := 35) C dX0_lowerLayers_35 1 rfl ?_
    refine j_iald (pc := 36) C 2 0 rfl rfl (by omega) (by omega) (by decide) dX0_lowerLayers_36 ?_
    refine j_iast (pc := 37) C 2 0 rfl rfl (by omega) (by omega) (by decide) (ws' := wG h c1 c2 (upZ (shf K i) (i - 1) ((shf K i) i)) (upZ (shf Dm i) (i - 1) ((shf Dm i) i)) L lo hi su db S dy li so sp tu ah M) rfl dX0_lowerLayers_37 ?_
    refine j_iinc (pc := 38) C (lv' := [(0, .ref (h 0)), (1, .int (zI (i + 1)))]) dX0_lowerLayers_38 1 rfl (by decide) [1, 0] rfl ?_
    refine j_goto (pc := 41) C 2 dX0_lowerLayers_41 (by decide) ?_
    exact J.cast (hk_2 trivial) (by rw [shf_up K i (by omega), shf_up Dm i (by omega)]) (by rfl) rfl
  · intro hI_2
    try dsimp only at hI_2 ⊢
    refine j_iload_n (pc := 2) C dX0_lowerLayers_2 1 rfl ?_
    refine j_aload_n (pc := 3) C dX0_lowerLayers_3 0 rfl ?_
    refine j_get (pc := 4) C (ref := "GrainSilo") (T := TX0) (N := 15) hin 0 rfl rfl 2 (by decide) (C.w 1 rfl) rfl rfl dX0_lowerLayers_4 ?_
    refine j_icmp_ge (pc := 7) C 44 dX0_lowerLayers_7 (by decide) ⟨by omega, by omega⟩ ⟨by omega, by omega⟩ (fun c_7 => ?_) (fun c_7 => absurd c_7 (by omega))
    refine j_aload_n (pc := 44) C dX0_lowerLayers_44 0 rfl ?_
    refine j_dup (pc := 45) C dX0_lowerLayers_45 rfl ?_
    refine j_get (pc := 46) C (ref := "GrainSilo") (T := TX0) (N := 15) hin 0 rfl rfl 2 (by decide) (C.w 1 rfl) rfl rfl dX0_lowerLayers_46 ?_
    refine j_iconst (pc := 49) C dX0_lowerLayers_49 ?_
    refine j_isub (pc := 50) C dX0_lowerLayers_50 ?_
    refine j_put (pc := 51) C (ref := "GrainSilo") (T := TX0) (N := 15) (ws' := wG h c1 c2 (shf K L) (shf Dm L) (L - 1) lo hi su db S dy li so sp tu ah M) hin tyX0 tyX0_ok nmX0 0 rfl rfl 2 (by decide) (C.w 1 rfl) rfl rfl (by decide +kernel) (Nat.le_of_ble_eq_true rfl) rfl dX0_lowerLayers_51 ?_
    exact j_vret (pc := 54) C hr dX0_lowerLayers_54 (by rfl) (by decide) (by decide)
set_option maxHeartbeats 4000000 in
set_option maxRecDepth 100000 in
theorem kX0_sumNow (l : Launch) (D : va_G) (h : Nat → Nat) (c1 c2 c3 : ClassId) (K Dm : Int → Int) (L : Int) (lo hi su db : Int → Int) (S dy li so sp : Int) (tu ah : Int → Int) (M : Int → Int → Int) (a b : Int) (h0 : 0 ≤ a) (h1 : a ≤ b + 1) (h2 : b < 12) : cI l yX0_sumNow wsX0_sumNow ({ frames := 0, cells := 0, slots := 0, locals := 0 }) D (tyS c1 c2 c3) [.ref (h 0), .int (zI a), .int (zI b)] (wG h c1 c2 K Dm L lo hi su db S dy li so sp tu ah M) (wG h c1 c2 K Dm L lo hi su db S dy li so sp tu ah M) (zI (zs Dm a (b + 1))) 0 0 := by
  refine cI.of (cc := cX0_sumNow) (maxL := 5) (ret := .int) (by decide) rfl (lv := [(0, .ref (h 0)), (1, .int (zI a)), (2, .int (zI b))]) [0, 1, 2] rfl (Nat.le_of_ble_eq_true rfl) ?_
  intro p e s m args below meth c A C hr
  have C : GC p s m args meth c cX0_sumNow 5 RX0 wsX0_sumNow D (tyS c1 c2 c3) A := C
  have hin : ∀ w ∈ wsX00, w ∈ wsX0_sumNow := fun _ h => List.mem_cons_of_mem _ (List.mem_append_right _ h)
  refine j_iconst (pc := 0) C dX0_sumNow_0 ?_
  refine j_istore_n (pc := 1) C (lv' := [(0, .ref (h 0)), (1, .int (zI a)), (2, .int (zI b)), (3, .int (zI 0))]) dX0_sumNow_1 (by decide) [1, 2, 3, 0] rfl ?_
  refine j_iload_n (pc := 2) C dX0_sumNow_2 1 rfl ?_
  refine j_istore (pc := 3) C (lv' := [(0, .ref (h 0)), (1, .int (zI a)), (2, .int (zI b)), (3, .int (zI 0)), (4, .int (zI a))]) dX0_sumNow_3 (by decide) [1, 2, 3, 4, 0] rfl ?_
  refine J.cast (ws' := wG h c1 c2 K Dm L lo hi su db S dy li so sp tu ah M) (lv' := [(0, .ref (h 0)), (1, .int (zI a)), (2, .int (zI b)), (3, .int (zI (zs Dm a a))), (4, .int (zI a))]) ?_ (by rfl) (by rw [zs_0]) rfl
  refine j_up (fun i : Int => wG h c1 c2 K Dm L lo hi su db S dy li so sp tu ah M) (fun i : Int => [(0, .ref (h 0)), (1, .int (zI a)), (2, .int (zI b)), (3, .int (zI (zs Dm a i))), (4, .int (zI i))]) (fun i : Int => True) a (b + 1) (by omega) trivial ?_ ?_
  · intro i h0_5 h1_5 hI_5 hk_5
    try dsimp only at hI_5 hk_5 ⊢
    refine j_iload (pc := 5) C dX0_sumNow_5 4 rfl ?_
    refine j_iload_n (pc := 7) C dX0_sumNow_7 2 rfl ?_
    refine j_icmp_gt (pc := 8) C 27 dX0_sumNow_8 (by decide) ⟨by omega, by omega⟩ ⟨by omega, by omega⟩ (fun c_8 => absurd c_8 (by omega)) (fun c_8 => ?_)
    refine j_iload_n (pc := 11) C dX0_sumNow_11 3 rfl ?_
    refine j_aload_n (pc := 12) C dX0_sumNow_12 0 rfl ?_
    refine j_get (pc := 13) C (ref := "GrainSilo") (T := TX0) (N := 15) hin 0 rfl rfl 1 (by decide) (C.w 1 rfl) rfl rfl dX0_sumNow_13 ?_
    refine j_iload (pc := 16) C dX0_sumNow_16 4 rfl ?_
    refine j_iald (pc := 18) C 2 0 rfl rfl (by omega) (by omega) (by decide) dX0_sumNow_18 ?_
    refine j_iadd (pc := 19) C dX0_sumNow_19 ?_
    refine j_istore_n (pc := 20) C (lv' := [(0, .ref (h 0)), (1, .int (zI a)), (2, .int (zI b)), (3, .int (zI ((zs Dm a i) + (Dm i)))), (4, .int (zI i))]) dX0_sumNow_20 (by decide) [1, 2, 3, 0, 4] rfl ?_
    refine j_iinc (pc := 21) C (lv' := [(0, .ref (h 0)), (1, .int (zI a)), (2, .int (zI b)), (3, .int (zI ((zs Dm a i) + (Dm i)))), (4, .int (zI (i + 1)))]) dX0_sumNow_21 4 rfl (by decide) [1, 2, 3, 4, 0] rfl ?_
    refine j_goto (pc := 24) C 5 dX0_sumNow_24 (by decide) ?_
    exact J.cast (hk_5 trivial) (by rfl) (by rw [zs_up Dm a i (by omega)]) rfl
  · intro hI_5
    try dsimp only at hI_5 ⊢
    refine j_iload (pc := 5) C dX0_sumNow_5 4 rfl ?_
    refine j_iload_n (pc := 7) C dX0_sumNow_7 2 rfl ?_
    refine j_icmp_gt (pc := 8) C 27 dX0_sumNow_8 (by decide) ⟨by omega, by omega⟩ ⟨by omega, by omega⟩ (fun c_8 => ?_) (fun c_8 => absurd c_8 (by omega))
    refine j_iload_n (pc := 27) C dX0_sumNow_27 3 rfl ?_
    exact j_iret (pc := 28) C hr dX0_sumNow_28 (by rfl) (by rfl) (by decide) (by decide)
set_option maxHeartbeats 4000000 in
set_option maxRecDepth 100000 in
theorem kX0_moveSample (l : Launch) (D : va_G) (h : Nat → Nat) (c1 c2 c3 : ClassId) (K Dm : Int → Int) (L : Int) (lo hi su db : Int → Int) (S dy li so sp : Int) (tu ah : Int → Int) (M : Int → Int → Int) (a b : Int) (h0 : 0 ≤ a) (h1 : a < 16) (h2 : 0 ≤ b) (h3 : b < 16) : cV l yX0_moveSample wsX0_moveSample ({ frames := 0, cells := 0, slots := 0, locals := 0 }) D (tyS c1 c2 c3) [.ref (h 0), .int (zI a), .int (zI b)] (wG h c1 c2 K Dm L lo hi su db S dy li so sp tu ah M) (wG h c1 c2 K Dm L (upZ lo b (lo a)) (upZ hi b (hi a)) (upZ su b (su a)) (upZ db b (db a)) S dy li so sp tu ah M) 0 0 := by
  refine cV.of (cc := cX0_moveSample) (maxL := 3) (by decide) rfl (lv := [(0, .ref (h 0)), (1, .int (zI a)), (2, .int (zI b))]) [0, 1, 2] rfl (Nat.le_of_ble_eq_true rfl) ?_
  intro p e s m args below meth c A C hr
  have C : GC p s m args meth c cX0_moveSample 3 RX0 wsX0_moveSample D (tyS c1 c2 c3) A := C
  have hin : ∀ w ∈ wsX00, w ∈ wsX0_moveSample := fun _ h => List.mem_cons_of_mem _ (List.mem_append_right _ h)
  refine j_aload_n (pc := 0) C dX0_moveSample_0 0 rfl ?_
  refine j_get (pc := 1) C (ref := "GrainSilo") (T := TX0) (N := 15) hin 0 rfl rfl 3 (by decide) (C.w 1 rfl) rfl rfl dX0_moveSample_1 ?_
  refine j_iload_n (pc := 4) C dX0_moveSample_4 2 rfl ?_
  refine j_aload_n (pc := 5) C dX0_moveSample_5 0 rfl ?_
  refine j_get (pc := 6) C (ref := "GrainSilo") (T := TX0) (N := 15) hin 0 rfl rfl 3 (by decide) (C.w 1 rfl) rfl rfl dX0_moveSample_6 ?_
  refine j_iload_n (pc := 9) C dX0_moveSample_9 1 rfl ?_
  refine j_iald (pc := 10) C 3 0 rfl rfl (by omega) (by omega) (by decide) dX0_moveSample_10 ?_
  refine j_iast (pc := 11) C 3 0 rfl rfl (by omega) (by omega) (by decide) (ws' := wG h c1 c2 K Dm L (upZ lo b (lo a)) hi su db S dy li so sp tu ah M) rfl dX0_moveSample_11 ?_
  refine j_aload_n (pc := 12) C dX0_moveSample_12 0 rfl ?_
  refine j_get (pc := 13) C (ref := "GrainSilo") (T := TX0) (N := 15) hin 0 rfl rfl 4 (by decide) (C.w 2 rfl) rfl rfl dX0_moveSample_13 ?_
  refine j_iload_n (pc := 16) C dX0_moveSample_16 2 rfl ?_
  refine j_aload_n (pc := 17) C dX0_moveSample_17 0 rfl ?_
  refine j_get (pc := 18) C (ref := "GrainSilo") (T := TX0) (N := 15) hin 0 rfl rfl 4 (by decide) (C.w 2 rfl) rfl rfl dX0_moveSample_18 ?_
  refine j_iload_n (pc := 21) C dX0_moveSample_21 1 rfl ?_
  refine j_iald (pc := 22) C 4 0 rfl rfl (by omega) (by omega) (by decide) dX0_moveSample_22 ?_
  refine j_iast (pc := 23) C 4 0 rfl rfl (by omega) (by omega) (by decide) (ws' := wG h c1 c2 K Dm L (upZ lo b (lo a)) (upZ hi b (hi a)) su db S dy li so sp tu ah M) rfl dX0_moveSample_23 ?_
  refine j_aload_n (pc := 24) C dX0_moveSample_24 0 rfl ?_
  refine j_get (pc := 25) C (ref := "GrainSilo") (T := TX0) (N := 15) hin 0 rfl rfl 5 (by decide) (C.w 3 rfl) rfl rfl dX0_moveSample_25 ?_
  refine j_iload_n (pc := 28) C dX0_moveSample_28 2 rfl ?_
  refine j_aload_n (pc := 29) C dX0_moveSample_29 0 rfl ?_
  refine j_get (pc := 30) C (ref := "GrainSilo") (T := TX0) (N := 15) hin 0 rfl rfl 5 (by decide) (C.w 3 rfl) rfl rfl dX0_moveSample_30 ?_
  refine j_iload_n (pc := 33) C dX0_moveSample_33 1 rfl ?_
  refine j_iald (pc := 34) C 5 0 rfl rfl (by omega) (by omega) (by decide) dX0_moveSample_34 ?_
  refine j_iast (pc := 35) C 5 0 rfl rfl (by omega) (by omega) (by decide) (ws' := wG h c1 c2 K Dm L (upZ lo b (lo a)) (upZ hi b (hi a)) (upZ su b (su a)) db S dy li so sp tu ah M) rfl dX0_moveSample_35 ?_
  refine j_aload_n (pc := 36) C dX0_moveSample_36 0 rfl ?_
  refine j_get (pc := 37) C (ref := "GrainSilo") (T := TX0) (N := 15) hin 0 rfl rfl 6 (by decide) (C.w 4 rfl) rfl rfl dX0_moveSample_37 ?_
  refine j_iload_n (pc := 40) C dX0_moveSample_40 2 rfl ?_
  refine j_aload_n (pc := 41) C dX0_moveSample_41 0 rfl ?_
  refine j_get (pc := 42) C (ref := "GrainSilo") (T := TX0) (N := 15) hin 0 rfl rfl 6 (by decide) (C.w 4 rfl) rfl rfl dX0_moveSample_42 ?_
  refine j_iload_n (pc := 45) C dX0_moveSample_45 1 rfl ?_
  refine j_iald (pc := 46) C 6 0 rfl rfl (by omega) (by omega) (by decide) dX0_moveSample_46 ?_
  refine j_iast (pc := 47) C 6 0 rfl rfl (by omega) (by omega) (by decide) (ws' := wG h c1 c2 K Dm L (upZ lo b (lo a)) (upZ hi b (hi a)) (upZ su b (su a)) (upZ db b (db a)) S dy li so sp tu ah M) rfl dX0_moveSample_47 ?_
  exact j_vret (pc := 48) C hr dX0_moveSample_48 (by rfl) (by decide) (by decide)
set_option maxHeartbeats 4000000 in
set_option maxRecDepth 100000 in
theorem kX0_lowerSamples (l : Launch) (D : va_G) (h : Nat → Nat) (c1 c2 c3 : ClassId) (K Dm : Int → Int) (L : Int) (lo hi su db : Int → Int) (S dy li so sp : Int) (tu ah : Int → Int) (M : Int → Int → Int) (hS0 : 0 ≤ S) (hS : S ≤ 16) : cV l yX0_lowerSamples wsX0_lowerSamples ({ frames := 0, cells := 0, slots := 0, locals := 0 }) D (tyS c1 c2 c3) [.ref (h 0)] (wG h c1 c2 K Dm L lo hi su db S dy li so sp tu ah M) (wG h c1 c2 K Dm L (mix (fun j => lo j - 1) lo S) (mix (fun j => hi j - 1) hi S) su db S dy li so sp tu ah M) 0 0 := by
  refine cV.of (cc := cX0_lowerSamples) (maxL := 2) (by decide) rfl (lv := [(0, .ref (h 0))]) [0] rfl (Nat.le_of_ble_eq_true rfl) ?_
  intro p e s m args below meth c A C hr
  have C : GC p s m args meth c cX0_lowerSamples 2 RX0 wsX0_lowerSamples D (tyS c1 c2 c3) A := C
  have hin : ∀ w ∈ wsX00, w ∈ wsX0_lowerSamples := fun _ h => List.mem_cons_of_mem _ (List.mem_append_right _ h)
  refine j_iconst (pc := 0) C dX0_lowerSamples_0 ?_
  refine j_istore_n (pc := 1) C (lv' := [(0, .ref (h 0)), (1, .int (zI 0))]) dX0_lowerSamples_1 (by decide) [1, 0] rfl ?_
  refine J.cast (ws' := wG h c1 c2 K Dm L (mix (fun j => lo j - 1) lo 0) (mix (fun j => hi j - 1) hi 0) su db S dy li so sp tu ah M) (lv' := [(0, .ref (h 0)), (1, .int (zI 0))]) ?_ (by rw [mix_0, mix_0]) (by rfl) rfl
  refine j_up (fun i : Int => wG h c1 c2 K Dm L (mix (fun j => lo j - 1) lo i) (mix (fun j => hi j - 1) hi i) su db S dy li so sp tu ah M) (fun i : Int => [(0, .ref (h 0)), (1, .int (zI i))]) (fun i : Int => True) 0 S (by omega) trivial ?_ ?_
  · intro i h0_2 h1_2 hI_2 hk_2
    try dsimp only at hI_2 hk_2 ⊢
    refine j_iload_n (pc := 2) C dX0_lowerSamples_2 1 rfl ?_
    refine j_aload_n (pc := 3) C dX0_lowerSamples_3 0 rfl ?_
    refine j_get (pc := 4) C (ref := "GrainSilo") (T := TX0) (N := 15) hin 0 rfl rfl 7 (by decide) (C.w 1 rfl) rfl rfl dX0_lowerSamples_4 ?_
    refine j_icmp_ge (pc := 7) C 36 dX0_lowerSamples_7 (by decide) ⟨by omega, by omega⟩ ⟨by omega, by omega⟩ (fun c_7 => absurd c_7 (by omega)) (fun c_7 => ?_)
    refine j_aload_n (pc := 10) C dX0_lowerSamples_10 0 rfl ?_
    refine j_get (pc := 11) C (ref := "GrainSilo") (T := TX0) (N := 15) hin 0 rfl rfl 3 (by decide) (C.w 2 rfl) rfl rfl dX0_lowerSamples_11 ?_
    refine j_iload_n (pc := 14) C dX0_lowerSamples_14 1 rfl ?_
    refine j_dup2 (pc := 15) C dX0_lowerSamples_15 rfl rfl ?_
    refine j_iald (pc := 16) C 3 0 rfl rfl (by omega) (by omega) (by decide) dX0_lowerSamples_16 ?_
    refine j_iconst (pc := 17) C dX0_lowerSamples_17 ?_
    refine j_isub (pc := 18) C dX0_lowerSamples_18 ?_
    refine j_iast (pc := 19) C 3 0 rfl rfl (by omega) (by omega) (by decide) (ws' := wG h c1 c2 K Dm L (upZ (mix (fun j => lo j - 1) lo i) i (((mix (fun j => lo j - 1) lo i) i) - 1)) (mix (fun j => hi j - 1) hi i) su db S dy li so sp tu ah M) rfl dX0_lowerSamples_19 ?_
    refine j_aload_n (pc := 20) C dX0_lowerSamples_20 0 rfl ?_
    refine j_get (pc := 21) C (ref := "GrainSilo") (T := TX0) (N := 15) hin 0 rfl rfl 4 (by decide) (C.w 3 rfl) rfl rfl dX0_lowerSamples_21 ?_
    refine j_iload_n (pc := 24) C dX0_lowerSamples_24 1 rfl ?_
    refine j_dup2 (pc := 25) C dX0_lowerSamples_25 rfl rfl ?_
    refine j_iald (pc := 26) C 4 0 rfl rfl (by omega) (by omega) (by decide) dX0_lowerSamples_26 ?_
    refine j_iconst (pc := 27) C dX0_lowerSamples_27 ?_
    refine j_isub (pc := 28) C dX0_lowerSamples_28 ?_
    refine j_iast (pc := 29) C 4 0 rfl rfl (by omega) (by omega) (by decide) (ws' := wG h c1 c2 K Dm L (upZ (mix (fun j => lo j - 1) lo i) i (((mix (fun j => lo j - 1) lo i) i) - 1)) (upZ (mix (fun j => hi j - 1) hi i) i (((mix (fun j => hi j - 1) hi i) i) - 1)) su db S dy li so sp tu ah M) rfl dX0_lowerSamples_29 ?_
    refine j_iinc (pc := 30) C (lv' := [(0, .ref (h 0)), (1, .int (zI (i + 1)))]) dX0_lowerSamples_30 1 rfl (by decide) [1, 0] rfl ?_
    refine j_goto (pc := 33) C 2 dX0_lowerSamples_33 (by decide) ?_
    exact J.cast (hk_2 trivial) (by rw [mix_up _ lo i h0_2, mix_up _ hi i h0_2, mix_ge _ lo i i (Int.le_refl _), mix_ge _ hi i i (Int.le_refl _)]) (by rfl) rfl
  · intro hI_2
    try dsimp only at hI_2 ⊢
    refine j_iload_n (pc := 2) C dX0_lowerSamples_2 1 rfl ?_
    refine j_aload_n (pc := 3) C dX0_lowerSamples_3 0 rfl ?_
    refine j_get (pc := 4) C (ref := "GrainSilo") (T := TX0) (N := 15) hin 0 rfl rfl 7 (by decide) (C.w 1 rfl) rfl rfl dX0_lowerSamples_4 ?_
    refine j_icmp_ge (pc := 7) C 36 dX0_lowerSamples_7 (by decide) ⟨by omega, by omega⟩ ⟨by omega, by omega⟩ (fun c_7 => ?_) (fun c_7 => absurd c_7 (by omega))
    exact j_vret (pc := 36) C hr dX0_lowerSamples_36 (by rfl) (by decide) (by decide)
set_option maxHeartbeats 4000000 in
set_option maxRecDepth 100000 in
theorem kX0_addDoubt (l : Launch) (D : va_G) (h : Nat → Nat) (c1 c2 c3 : ClassId) (K Dm : Int → Int) (L : Int) (lo hi su db : Int → Int) (S dy li so sp : Int) (tu ah : Int → Int) (M : Int → Int → Int) (a : Int) (hS0 : 0 ≤ S) (hS : S ≤ 16) : cV l yX0_addDoubt wsX0_addDoubt ({ frames := 0, cells := 0, slots := 0, locals := 0 }) D (tyS c1 c2 c3) [.ref (h 0), .int (zI a)] (wG h c1 c2 K Dm L lo hi su db S dy li so sp tu ah M) (wG h c1 c2 K Dm L lo hi su (mix (fun j => db j + a * (hi j - lo j + 1)) db S) S dy li so sp tu ah M) 0 0 := by
  refine cV.of (cc := cX0_addDoubt) (maxL := 3) (by decide) rfl (lv := [(0, .ref (h 0)), (1, .int (zI a))]) [0, 1] rfl (Nat.le_of_ble_eq_true rfl) ?_
  intro p e s m args below meth c A C hr
  have C : GC p s m args meth c cX0_addDoubt 3 RX0 wsX0_addDoubt D (tyS c1 c2 c3) A := C
  have hin : ∀ w ∈ wsX00, w ∈ wsX0_addDoubt := fun _ h => List.mem_cons_of_mem _ (List.mem_append_right _ h)
  refine j_iconst (pc := 0) C dX0_addDoubt_0 ?_
  refine j_istore_n (pc := 1) C (lv' := [(0, .ref (h 0)), (1, .int (zI a)), (2, .int (zI 0))]) dX0_addDoubt_1 (by decide) [1, 2, 0] rfl ?_
  refine J.cast (ws' := wG h c1 c2 K Dm L lo hi su (mix (fun j => db j + a * (hi j - lo j + 1)) db 0) S dy li so sp tu ah M) (lv' := [(0, .ref (h 0)), (1, .int (zI a)), (2, .int (zI 0))]) ?_ (by rw [mix_0]) (by rfl) rfl
  refine j_up (fun i : Int => wG h c1 c2 K Dm L lo hi su (mix (fun j => db j + a * (hi j - lo j + 1)) db i) S dy li so sp tu ah M) (fun i : Int => [(0, .ref (h 0)), (1, .int (zI a)), (2, .int (zI i))]) (fun i : Int => True) 0 S (by omega) trivial ?_ ?_
  · intro i h0_2 h1_2 hI_2 hk_2
    try dsimp only at hI_2 hk_2 ⊢
    refine j_iload_n (pc := 2) C dX0_addDoubt_2 2 rfl ?_
    refine j_aload_n (pc := 3) C dX0_addDoubt_3 0 rfl ?_
    refine j_get (pc := 4) C (ref := "GrainSilo") (T := TX0) (N := 15) hin 0 rfl rfl 7 (by decide) (C.w 1 rfl) rfl rfl dX0_addDoubt_4 ?_
    refine j_icmp_ge (pc := 7) C 42 dX0_addDoubt_7 (by decide) ⟨by omega, by omega⟩ ⟨by omega, by omega⟩ (fun c_7 => absurd c_7 (by omega)) (fun c_7 => ?_)
    refine j_aload_n (pc := 10) C dX0_addDoubt_10 0 rfl ?_
    refine j_get (pc := 11) C (ref := "GrainSilo") (T := TX0) (N := 15) hin 0 rfl rfl 6 (by decide) (C.w 2 rfl) rfl rfl dX0_addDoubt_11 ?_
    refine j_iload_n (pc := 14) C dX0_addDoubt_14 2 rfl ?_
    refine j_dup2 (pc := 15) C dX0_addDoubt_15 rfl rfl ?_
    refine j_iald (pc := 16) C 6 0 rfl rfl (by omega) (by omega) (by decide) dX0_addDoubt_16 ?_
    refine j_iload_n (pc := 17) C dX0_addDoubt_17 1 rfl ?_
    refine j_aload_n (pc := 18) C dX0_addDoubt_18 0 rfl ?_
    refine j_get (pc := 19) C (ref := "GrainSilo") (T := TX0) (N := 15) hin 0 rfl rfl 4 (by decide) (C.w 3 rfl) rfl rfl dX0_addDoubt_19 ?_
    refine j_iload_n (pc := 22) C dX0_addDoubt_22 2 rfl ?_
    refine j_iald (pc := 23) C 4 0 rfl rfl (by omega) (by omega) (by decide) dX0_addDoubt_23 ?_
    refine j_aload_n (pc := 24) C dX0_addDoubt_24 0 rfl ?_
    refine j_get (pc := 25) C (ref := "GrainSilo") (T := TX0) (N := 15) hin 0 rfl rfl 3 (by decide) (C.w 4 rfl) rfl rfl dX0_addDoubt_25 ?_
    refine j_iload_n (pc := 28) C dX0_addDoubt_28 2 rfl ?_
    refine j_iald (pc := 29) C 3 0 rfl rfl (by omega) (by omega) (by decide) dX0_addDoubt_29 ?_
    refine j_isub (pc := 30) C dX0_addDoubt_30 ?_
    refine j_iconst (pc := 31) C dX0_addDoubt_31 ?_
    refine j_iadd (pc := 32) C dX0_addDoubt_32 ?_
    refine j_imul (pc := 33) C dX0_addDoubt_33 ?_
    refine j_iadd (pc := 34) C dX0_addDoubt_34 ?_
    refine j_iast (pc := 35) C 6 0 rfl rfl (by omega) (by omega) (by decide) (ws' := wG h c1 c2 K Dm L lo hi su (upZ (mix (fun j => db j + a * (hi j - lo j + 1)) db i) i (((mix (fun j => db j + a * (hi j - lo j + 1)) db i) i) + (a * (((hi i) - (lo i)) + 1)))) S dy li so sp tu ah M) rfl dX0_addDoubt_35 ?_
    refine j_iinc (pc := 36) C (lv' := [(0, .ref (h 0)), (1, .int (zI a)), (2, .int (zI (i + 1)))]) dX0_addDoubt_36 2 rfl (by decide) [1, 2, 0] rfl ?_
    refine j_goto (pc := 39) C 2 dX0_addDoubt_39 (by decide) ?_
    exact J.cast (hk_2 trivial) (by rw [mix_up _ db i h0_2, mix_ge _ db i i (Int.le_refl _)]) (by rfl) rfl
  · intro hI_2
    try dsimp only at hI_2 ⊢
    refine j_iload_n (pc := 2) C dX0_addDoubt_2 2 rfl ?_
    refine j_aload_n (pc := 3) C dX0_addDoubt_3 0 rfl ?_
    refine j_get (pc := 4) C (ref := "GrainSilo") (T := TX0) (N := 15) hin 0 rfl rfl 7 (by decide) (C.w 1 rfl) rfl rfl dX0_addDoubt_4 ?_
    refine j_icmp_ge (pc := 7) C 42 dX0_addDoubt_7 (by decide) ⟨by omega, by omega⟩ ⟨by omega, by omega⟩ (fun c_7 => ?_) (fun c_7 => absurd c_7 (by omega))
    exact j_vret (pc := 42) C hr dX0_addDoubt_42 (by rfl) (by decide) (by decide)
set_option maxHeartbeats 4000000 in
set_option maxRecDepth 100000 in
theorem kX0_copyDampnessAhead (l : Launch) (D : va_G) (h : Nat → Nat) (c1 c2 c3 : ClassId) (K Dm : Int → Int) (L : Int) (lo hi su db : Int → Int) (S dy li so sp : Int) (tu ah : Int → Int) (M : Int → Int → Int) (hL0 : 0 ≤ L) (hL : L ≤ 12) : cV l yX0_copyDampnessAhead wsX0_copyDampnessAhead ({ frames := 0, cells := 0, slots := 0, locals := 0 }) D (tyS c1 c2 c3) [.ref (h 0)] (wG h c1 c2 K Dm L lo hi su db S dy li so sp tu ah M) (wG h c1 c2 K Dm L lo hi su db S dy li so sp tu (mix Dm ah L) M) 0 0 := by
  refine cV.of (cc := cX0_copyDampnessAhead) (maxL := 2) (by decide) rfl (lv := [(0, .ref (h 0))]) [0] rfl (Nat.le_of_ble_eq_true rfl) ?_
  intro p e s m args below meth c A C hr
  have C : GC p s m args meth c cX0_copyDampnessAhead 2 RX0 wsX0_copyDampnessAhead D (tyS c1 c2 c3) A := C
  have hin : ∀ w ∈ wsX00, w ∈ wsX0_copyDampnessAhead := fun _ h => List.mem_cons_of_mem _ (List.mem_append_right _ h)
  refine j_iconst (pc := 0) C dX0_copyDampnessAhead_0 ?_
  refine j_istore_n (pc := 1) C (lv' := [(0, .ref (h 0)), (1, .int (zI 0))]) dX0_copyDampnessAhead_1 (by decide) [1, 0] rfl ?_
  refine J.cast (ws' := wG h c1 c2 K Dm L lo hi su db S dy li so sp tu (mix Dm ah 0) M) (lv' := [(0, .ref (h 0)), (1, .int (zI 0))]) ?_ (by rw [mix_0]) (by rfl) rfl
  refine j_up (fun i : Int => wG h c1 c2 K Dm L lo hi su db S dy li so sp tu (mix Dm ah i) M) (fun i : Int => [(0, .ref (h 0)), (1, .int (zI i))]) (fun i : Int => True) 0 L (by omega) trivial ?_ ?_
  · intro i h0_2 h1_2 hI_2 hk_2
    try dsimp only at hI_2 hk_2 ⊢
    refine j_iload_n (pc := 2) C dX0_copyDampnessAhead_2 1 rfl ?_
    refine j_aload_n (pc := 3) C dX0_copyDampnessAhead_3 0 rfl ?_
    refine j_get (pc := 4) C (ref := "GrainSilo") (T := TX0) (N := 15) hin 0 rfl rfl 2 (by decide) (C.w 1 rfl) rfl rfl dX0_copyDampnessAhead_4 ?_
    refine j_icmp_ge (pc := 7) C 28 dX0_copyDampnessAhead_7 (by decide) ⟨by omega, by omega⟩ ⟨by omega, by omega⟩ (fun c_7 => absurd c_7 (by omega)) (fun c_7 => ?_)
    refine j_aload_n (pc := 10) C dX0_copyDampnessAhead_10 0 rfl ?_
    refine j_get (pc := 11) C (ref := "GrainSilo") (T := TX0) (N := 15) hin 0 rfl rfl 13 (by decide) (C.w 2 rfl) rfl rfl dX0_copyDampnessAhead_11 ?_
    refine j_iload_n (pc := 14) C dX0_copyDampnessAhead_14 1 rfl ?_
    refine j_aload_n (pc := 15) C dX0_copyDampnessAhead_15 0 rfl ?_
    refine j_get (pc := 16) C (ref := "GrainSilo") (T := TX0) (N := 15) hin 0 rfl rfl 1 (by decide) (C.w 3 rfl) rfl rfl dX0_copyDampnessAhead_16 ?_
    refine j_iload_n (pc := 19) C dX0_copyDampnessAhead_19 1 rfl ?_
    refine j_iald (pc := 20) C 2 0 rfl rfl (by omega) (by omega) (by decide) dX0_copyDampnessAhead_20 ?_
    refine j_iast (pc := 21) C 8 0 rfl rfl (by omega) (by omega) (by decide) (ws' := wG h c1 c2 K Dm L lo hi su db S dy li so sp tu (upZ (mix Dm ah i) i (Dm i)) M) rfl dX0_copyDampnessAhead_21 ?_
    refine j_iinc (pc := 22) C (lv' := [(0, .ref (h 0)), (1, .int (zI (i + 1)))]) dX0_copyDampnessAhead_22 1 rfl (by decide) [1, 0] rfl ?_
    refine j_goto (pc := 25) C 2 dX0_copyDampnessAhead_25 (by decide) ?_
    exact J.cast (hk_2 trivial) (by rw [mix_up _ ah i h0_2]) (by rfl) rfl
  · intro hI_2
    try dsimp only at hI_2 ⊢
    refine j_iload_n (pc := 2) C dX0_copyDampnessAhead_2 1 rfl ?_
    refine j_aload_n (pc := 3) C dX0_copyDampnessAhead_3 0 rfl ?_
    refine j_get (pc := 4) C (ref := "GrainSilo") (T := TX0) (N := 15) hin 0 rfl rfl 2 (by decide) (C.w 1 rfl) rfl rfl dX0_copyDampnessAhead_4 ?_
    refine j_icmp_ge (pc := 7) C 28 dX0_copyDampnessAhead_7 (by decide) ⟨by omega, by omega⟩ ⟨by omega, by omega⟩ (fun c_7 => ?_) (fun c_7 => absurd c_7 (by omega))
    exact j_vret (pc := 28) C hr dX0_copyDampnessAhead_28 (by rfl) (by decide) (by decide)
