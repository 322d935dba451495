/-! ===== GrainSilo: days, samples, bounds ===== -/
set_option maxHeartbeats 4000000 in
set_option maxRecDepth 100000 in
theorem kX0_pullOf_Dm (l : Launch) (D : va_G) (h : Nat → Nat) (c1 c2 c3 : ClassId) (K Dm : Int → Int) (L : Int) (lo hi su db : Int → Int) (S dy li so sp : Int) (tu ah : Int → Int) (M : Int → Int → Int) (a b : Int) (hL0 : 0 ≤ L) (hL : L ≤ 12) (h0 : 0 ≤ a) (h1 : a < L) (h2 : -1 ≤ b) (h3 : b ≤ 12) (hd : ∀ j, 0 ≤ j → j < L → 0 ≤ Dm j ∧ Dm j ≤ 40) : cI l yX0_pullOf wsX0_pullOf ({ frames := 0, cells := 0, slots := 0, locals := 0 }) D (tyS c1 c2 c3) [.ref (h 0), .ref (h 2), .int (zI a), .int (zI b)] (wG h c1 c2 K Dm L lo hi su db S dy li so sp tu ah M) (wG h c1 c2 K Dm L lo hi su db S dy li so sp tu ah M) (zI (pull Dm L a b)) 0 0 := by
  refine cI.of (cc := cX0_pullOf) (maxL := 5) (ret := .int) (by decide) rfl (lv := [(0, .ref (h 0)), (1, .ref (h 2)), (2, .int (zI a)), (3, .int (zI b))]) [0, 1, 2, 3] rfl (Nat.le_of_ble_eq_true rfl) ?_
  intro p e s m args below meth c A C hr
  have C : GC p s m args meth c cX0_pullOf 5 RX0 wsX0_pullOf D (tyS c1 c2 c3) A := C
  have hin : ∀ w ∈ wsX00, w ∈ wsX0_pullOf := fun _ h => List.mem_cons_of_mem _ (List.mem_append_right _ h)
  refine j_iload_n (pc := 0) C dX0_pullOf_0 3 rfl ?_
  refine j_if_lt (pc := 1) C 12 dX0_pullOf_1 (by decide) ⟨by omega, by omega⟩ (fun c_1 => ?_) (fun c_1 => ?_)
  · skip
    refine j_iconst (pc := 12) C dX0_pullOf_12 ?_
    exact j_iret (pc := 13) C hr dX0_pullOf_13 (by (unfold pull; first | rw [if_pos (by omega)] | rw [if_neg (by omega), if_pos (by omega)] | rw [if_neg (by omega), if_neg (by omega), if_pos (by omega)] | rw [if_neg (by omega), if_neg (by omega), if_neg (by omega)])) (by rfl) (by decide) (by decide)
  · skip
    refine j_iload_n (pc := 4) C dX0_pullOf_4 3 rfl ?_
    refine j_aload_n (pc := 5) C dX0_pullOf_5 0 rfl ?_
    refine j_get (pc := 6) C (ref := "GrainSilo") (T := TX0) (N := 15) hin 0 rfl rfl 2 (by decide) (C.w 1 rfl) rfl rfl dX0_pullOf_6 ?_
    refine j_icmp_lt (pc := 9) C 14 dX0_pullOf_9 (by decide) ⟨by omega, by omega⟩ ⟨by omega, by omega⟩ (fun c_9 => ?_) (fun c_9 => ?_)
    · skip
      have e1 := hd b (by omega) (by omega)
      have e2 := hd a (by omega) (by omega)
      refine j_aload_n (pc := 14) C dX0_pullOf_14 1 rfl ?_
      refine j_iload_n (pc := 15) C dX0_pullOf_15 3 rfl ?_
      refine j_iald (pc := 16) C 2 0 rfl rfl (by omega) (by omega) (by decide) dX0_pullOf_16 ?_
      refine j_aload_n (pc := 17) C dX0_pullOf_17 1 rfl ?_
      refine j_iload_n (pc := 18) C dX0_pullOf_18 2 rfl ?_
      refine j_iald (pc := 19) C 2 0 rfl rfl (by omega) (by omega) (by decide) dX0_pullOf_19 ?_
      refine j_isub (pc := 20) C dX0_pullOf_20 ?_
      refine j_istore (pc := 21) C (lv' := [(0, .ref (h 0)), (1, .ref (h 2)), (2, .int (zI a)), (3, .int (zI b)), (4, .int (zI ((Dm b) - (Dm a))))]) dX0_pullOf_21 (by decide) [1, 2, 3, 4, 0] rfl ?_
      refine j_iload (pc := 23) C dX0_pullOf_23 4 rfl ?_
      refine j_iconst (pc := 25) C dX0_pullOf_25 ?_
      refine j_icmp_lt (pc := 26) C 31 dX0_pullOf_26 (by decide) ⟨by omega, by omega⟩ ⟨by omega, by omega⟩ (fun c_26 => ?_) (fun c_26 => ?_)
      · skip
        refine j_iload (pc := 31) C dX0_pullOf_31 4 rfl ?_
        refine j_bipush (pc := 33) C dX0_pullOf_33 (by decide +kernel) ?_
        refine j_icmp_gt (pc := 35) C 42 dX0_pullOf_35 (by decide) ⟨by omega, by omega⟩ ⟨by omega, by omega⟩ (fun c_35 => ?_) (fun c_35 => ?_)
        · skip
          refine j_iconst (pc := 42) C dX0_pullOf_42 ?_
          exact j_iret (pc := 43) C hr dX0_pullOf_43 (by (unfold pull; first | rw [if_pos (by omega)] | rw [if_neg (by omega), if_pos (by omega)] | rw [if_neg (by omega), if_neg (by omega), if_pos (by omega)] | rw [if_neg (by omega), if_neg (by omega), if_neg (by omega)])) (by rfl) (by decide) (by decide)
        · skip
          refine j_iconst (pc := 38) C dX0_pullOf_38 ?_
          refine j_goto (pc := 39) C 43 dX0_pullOf_39 (by decide) ?_
          exact j_iret (pc := 43) C hr dX0_pullOf_43 (by (unfold pull; first | rw [if_pos (by omega)] | rw [if_neg (by omega), if_pos (by omega)] | rw [if_neg (by omega), if_neg (by omega), if_pos (by omega)] | rw [if_neg (by omega), if_neg (by omega), if_neg (by omega)])) (by rfl) (by decide) (by decide)
      · skip
        refine j_iconst (pc := 29) C dX0_pullOf_29 ?_
        exact j_iret (pc := 30) C hr dX0_pullOf_30 (by (unfold pull; first | rw [if_pos (by omega)] | rw [if_neg (by omega), if_pos (by omega)] | rw [if_neg (by omega), if_neg (by omega), if_pos (by omega)] | rw [if_neg (by omega), if_neg (by omega), if_neg (by omega)])) (by rfl) (by decide) (by decide)
    · skip
      refine j_iconst (pc := 12) C dX0_pullOf_12 ?_
      exact j_iret (pc := 13) C hr dX0_pullOf_13 (by (unfold pull; first | rw [if_pos (by omega)] | rw [if_neg (by omega), if_pos (by omega)] | rw [if_neg (by omega), if_neg (by omega), if_pos (by omega)] | rw [if_neg (by omega), if_neg (by omega), if_neg (by omega)])) (by rfl) (by decide) (by decide)
set_option maxHeartbeats 4000000 in
set_option maxRecDepth 100000 in
theorem kX0_turnOf_Dm (l : Launch) (D : va_G) (h : Nat → Nat) (c1 c2 c3 : ClassId) (K Dm : Int → Int) (L : Int) (lo hi su db : Int → Int) (S dy li so sp : Int) (tu ah : Int → Int) (M : Int → Int → Int) (a : Int) (hL0 : 0 ≤ L) (hL : L ≤ 12) (h0 : 0 ≤ a) (h1 : a < L) (hd : ∀ j, 0 ≤ j → j < L → 0 ≤ Dm j ∧ Dm j ≤ 40) : cI l yX0_turnOf wsX0_turnOf ({ frames := 1, cells := 0, slots := 0, locals := 24 }) D (tyS c1 c2 c3) [.ref (h 0), .ref (h 2), .int (zI a)] (wG h c1 c2 K Dm L lo hi su db S dy li so sp tu ah M) (wG h c1 c2 K Dm L lo hi su db S dy li so sp tu ah M) (zI (turn Dm L a)) 0 0 := by
  refine cI.of (cc := cX0_turnOf) (maxL := 4) (ret := .int) (by decide) rfl (lv := [(0, .ref (h 0)), (1, .ref (h 2)), (2, .int (zI a))]) [0, 1, 2] rfl (Nat.le_of_ble_eq_true rfl) ?_
  intro p e s m args below meth c A C hr
  have C : GC p s m args meth c cX0_turnOf 4 RX0 wsX0_turnOf D (tyS c1 c2 c3) A := C
  have hin : ∀ w ∈ wsX00, w ∈ wsX0_turnOf := fun _ h => List.mem_cons_of_mem _ (List.mem_append_right _ h)
  refine j_aload_n (pc := 0) C dX0_turnOf_0 0 rfl ?_
  refine j_aload_n (pc := 1) C dX0_turnOf_1 1 rfl ?_
  refine j_iload_n (pc := 2) C dX0_turnOf_2 2 rfl ?_
  refine j_iload_n (pc := 3) C dX0_turnOf_3 2 rfl ?_
  refine j_iconst (pc := 4) C dX0_turnOf_4 ?_
  refine j_isub (pc := 5) C dX0_turnOf_5 ?_
  refine j_callI (pc := 6) C (As := [.ref (h 2), .int (zI a), .int (zI (a - 1))]) (rest := []) (kX0_pullOf_Dm l D h c1 c2 c3 K Dm L lo hi su db S dy li so sp tu ah M a (a - 1) (by omega) (by omega) (by omega) (by omega) (by omega) (by omega) hd) (cwV 3 C.2.2.2.2.1 gX0_turnOf_X0_pullOf rfl rfl rfl (by decide +kernel) ⟨Nat.le_of_ble_eq_true rfl, Nat.le_of_ble_eq_true rfl⟩) 0 (ci := 0) rfl rfl rfl dX0_turnOf_6 rfl rfl (Nat.le_of_ble_eq_true rfl) (by decide) ?_
  refine j_aload_n (pc := 9) C dX0_turnOf_9 0 rfl ?_
  refine j_aload_n (pc := 10) C dX0_turnOf_10 1 rfl ?_
  refine j_iload_n (pc := 11) C dX0_turnOf_11 2 rfl ?_
  refine j_iload_n (pc := 12) C dX0_turnOf_12 2 rfl ?_
  refine j_iconst (pc := 13) C dX0_turnOf_13 ?_
  refine j_iadd (pc := 14) C dX0_turnOf_14 ?_
  refine j_callI (pc := 15) C (As := [.ref (h 2), .int (zI a), .int (zI (a + 1))]) (rest := [.int (zI (pull Dm L a (a - 1)))]) (kX0_pullOf_Dm l D h c1 c2 c3 K Dm L lo hi su db S dy li so sp tu ah M a (a + 1) (by omega) (by omega) (by omega) (by omega) (by omega) (by omega) hd) (cwV 3 C.2.2.2.2.1 gX0_turnOf_X0_pullOf rfl rfl rfl (by decide +kernel) ⟨Nat.le_of_ble_eq_true rfl, Nat.le_of_ble_eq_true rfl⟩) 0 (ci := 0) rfl rfl rfl dX0_turnOf_15 rfl rfl (Nat.le_of_ble_eq_true rfl) (by decide) ?_
  have e1 := pull_in Dm L a (a - 1)
  have e2 := pull_in Dm L a (a + 1)
  refine j_iadd (pc := 18) C dX0_turnOf_18 ?_
  refine j_istore_n (pc := 19) C (lv' := [(0, .ref (h 0)), (1, .ref (h 2)), (2, .int (zI a)), (3, .int (zI ((pull Dm L a (a - 1)) + (pull Dm L a (a + 1)))))]) dX0_turnOf_19 (by decide) [1, 2, 3, 0] rfl ?_
  refine j_iload_n (pc := 20) C dX0_turnOf_20 3 rfl ?_
  refine j_if_le (pc := 21) C 26 dX0_turnOf_21 (by decide) ⟨by omega, by omega⟩ (fun c_21 => ?_) (fun c_21 => ?_)
  · skip
    refine j_iload_n (pc := 26) C dX0_turnOf_26 3 rfl ?_
    refine j_if_ge (pc := 27) C 34 dX0_turnOf_27 (by decide) ⟨by omega, by omega⟩ (fun c_27 => ?_) (fun c_27 => ?_)
    · skip
      refine j_iconst (pc := 34) C dX0_turnOf_34 ?_
      exact j_iret (pc := 35) C hr dX0_turnOf_35 (by (unfold turn; first | rw [if_pos (by omega)] | rw [if_neg (by omega), if_pos (by omega)] | rw [if_neg (by omega), if_neg (by omega)])) (by rfl) (by decide) (by decide)
    · skip
      refine j_iconst (pc := 30) C dX0_turnOf_30 ?_
      refine j_goto (pc := 31) C 35 dX0_turnOf_31 (by decide) ?_
      exact j_iret (pc := 35) C hr dX0_turnOf_35 (by (unfold turn; first | rw [if_pos (by omega)] | rw [if_neg (by omega), if_pos (by omega)] | rw [if_neg (by omega), if_neg (by omega)])) (by rfl) (by decide) (by decide)
  · skip
    refine j_iconst (pc := 24) C dX0_turnOf_24 ?_
    exact j_iret (pc := 25) C hr dX0_turnOf_25 (by (unfold turn; first | rw [if_pos (by omega)] | rw [if_neg (by omega), if_pos (by omega)] | rw [if_neg (by omega), if_neg (by omega)])) (by rfl) (by decide) (by decide)
set_option maxHeartbeats 4000000 in
set_option maxRecDepth 100000 in
theorem kX0_letDayGoBy_Dm (l : Launch) (D : va_G) (h : Nat → Nat) (c1 c2 c3 : ClassId) (K Dm : Int → Int) (L : Int) (lo hi su db : Int → Int) (S dy li so sp : Int) (tu ah : Int → Int) (M : Int → Int → Int) (hL0 : 0 ≤ L) (hL : L ≤ 12) (hd : ∀ j, 0 ≤ j → j < L → 0 ≤ Dm j ∧ Dm j ≤ 40) : cI l yX0_letDayGoBy wsX0_letDayGoBy ({ frames := 2, cells := 0, slots := 0, locals := 47 }) D (tyS c1 c2 c3) [.ref (h 0), .ref (h 2)] (wG h c1 c2 K Dm L lo hi su db S dy li so sp tu ah M) (wG h c1 c2 K (mix (turnD Dm L) Dm L) L lo hi su db S dy li so sp (mix (turn Dm L) tu L) ah M) (zI (turnC Dm L)) 0 0 := by
  refine cI.of (cc := cX0_letDayGoBy) (maxL := 4) (ret := .int) (by decide) rfl (lv := [(0, .ref (h 0)), (1, .ref (h 2))]) [0, 1] rfl (Nat.le_of_ble_eq_true rfl) ?_
  intro p e s m args below meth c A C hr
  have C : GC p s m args meth c cX0_letDayGoBy 4 RX0 wsX0_letDayGoBy D (tyS c1 c2 c3) A := C
  have hin : ∀ w ∈ wsX00, w ∈ wsX0_letDayGoBy := fun _ h => List.mem_cons_of_mem _ (List.mem_append_right _ h)
  refine j_iconst (pc := 0) C dX0_letDayGoBy_0 ?_
  refine j_istore_n (pc := 1) C (lv' := [(0, .ref (h 0)), (1, .ref (h 2)), (2, .int (zI 0))]) dX0_letDayGoBy_1 (by decide) [1, 2, 0] rfl ?_
  refine J.cast (ws' := wG h c1 c2 K Dm L lo hi su db S dy li so sp (mix (turn Dm L) tu 0) ah M) (lv' := [(0, .ref (h 0)), (1, .ref (h 2)), (2, .int (zI 0))]) ?_ (by rw [mix_0]) (by rfl) rfl
  refine j_up (fun i : Int => wG h c1 c2 K Dm L lo hi su db S dy li so sp (mix (turn Dm L) tu i) ah M) (fun i : Int => [(0, .ref (h 0)), (1, .ref (h 2)), (2, .int (zI i))]) (fun i : Int => True) 0 L (by omega) trivial ?_ ?_
  · intro i h0_2 h1_2 hI_2 hk_2
    try dsimp only at hI_2 hk_2 ⊢
    refine j_iload_n (pc := 2) C dX0_letDayGoBy_2 2 rfl ?_
    refine j_aload_n (pc := 3) C dX0_letDayGoBy_3 0 rfl ?_
    refine j_get (pc := 4) C (ref := "GrainSilo") (T := TX0) (N := 15) hin 0 rfl rfl 2 (by decide) (C.w 1 rfl) rfl rfl dX0_letDayGoBy_4 ?_
    refine j_icmp_ge (pc := 7) C 28 dX0_letDayGoBy_7 (by decide) ⟨by omega, by omega⟩ ⟨by omega, by omega⟩ (fun c_7 => absurd c_7 (by omega)) (fun c_7 => ?_)
    refine j_aload_n (pc := 10) C dX0_letDayGoBy_10 0 rfl ?_
    refine j_get (pc := 11) C (ref := "GrainSilo") (T := TX0) (N := 15) hin 0 rfl rfl 12 (by decide) (C.w 2 rfl) rfl rfl dX0_letDayGoBy_11 ?_
    refine j_iload_n (pc := 14) C dX0_letDayGoBy_14 2 rfl ?_
    refine j_aload_n (pc := 15) C dX0_letDayGoBy_15 0 rfl ?_
    refine j_aload_n (pc := 16) C dX0_letDayGoBy_16 1 rfl ?_
    refine j_iload_n (pc := 17) C dX0_letDayGoBy_17 2 rfl ?_
    refine j_callI (pc := 18) C (As := [.ref (h 2), .int (zI i)]) (rest := [.int (zI i), .ref (h 7)]) (kX0_turnOf_Dm l D h c1 c2 c3 K Dm L lo hi su db S dy li so sp (mix (turn Dm L) tu i) ah M i (by omega) (by omega) (by omega) (by omega) hd) (cwV 2 C.2.2.2.2.1 gX0_letDayGoBy_X0_turnOf rfl rfl rfl (by decide +kernel) ⟨Nat.le_of_ble_eq_true rfl, Nat.le_of_ble_eq_true rfl⟩) 0 (ci := 0) rfl rfl rfl dX0_letDayGoBy_18 rfl rfl (Nat.le_of_ble_eq_true rfl) (by decide) ?_
    refine j_iast (pc := 21) C 7 0 rfl rfl (by omega) (by omega) (by decide) (ws' := wG h c1 c2 K Dm L lo hi su db S dy li so sp (upZ (mix (turn Dm L) tu i) i (turn Dm L i)) ah M) rfl dX0_letDayGoBy_21 ?_
    refine j_iinc (pc := 22) C (lv' := [(0, .ref (h 0)), (1, .ref (h 2)), (2, .int (zI (i + 1)))]) dX0_letDayGoBy_22 2 rfl (by decide) [1, 2, 0] rfl ?_
    refine j_goto (pc := 25) C 2 dX0_letDayGoBy_25 (by decide) ?_
    exact J.cast (hk_2 trivial) (by rw [mix_up _ tu i h0_2]) (by rfl) rfl
  · intro hI_2
    try dsimp only at hI_2 ⊢
    refine j_iload_n (pc := 2) C dX0_letDayGoBy_2 2 rfl ?_
    refine j_aload_n (pc := 3) C dX0_letDayGoBy_3 0 rfl ?_
    refine j_get (pc := 4) C (ref := "GrainSilo") (T := TX0) (N := 15) hin 0 rfl rfl 2 (by decide) (C.w 1 rfl) rfl rfl dX0_letDayGoBy_4 ?_
    refine j_icmp_ge (pc := 7) C 28 dX0_letDayGoBy_7 (by decide) ⟨by omega, by omega⟩ ⟨by omega, by omega⟩ (fun c_7 => ?_) (fun c_7 => absurd c_7 (by omega))
    refine j_iconst (pc := 28) C dX0_letDayGoBy_28 ?_
    refine j_istore_n (pc := 29) C (lv' := [(0, .ref (h 0)), (1, .ref (h 2)), (2, .int (zI 0))]) dX0_letDayGoBy_29 (by decide) [1, 2, 0] rfl ?_
    refine j_iconst (pc := 30) C dX0_letDayGoBy_30 ?_
    refine j_istore_n (pc := 31) C (lv' := [(0, .ref (h 0)), (1, .ref (h 2)), (2, .int (zI 0)), (3, .int (zI 0))]) dX0_letDayGoBy_31 (by decide) [1, 2, 3, 0] rfl ?_
    refine J.cast (ws' := wG h c1 c2 K (mix (turnD Dm L) Dm 0) L lo hi su db S dy li so sp (mix (turn Dm L) tu L) ah M) (lv' := [(0, .ref (h 0)), (1, .ref (h 2)), (2, .int (zI (zc (fun j => decide (turn Dm L j ≠ 0)) 0 0))), (3, .int (zI 0))]) ?_ (by rw [mix_0]) (by rw [zc_0]) rfl
    refine j_up (fun i : Int => wG h c1 c2 K (mix (turnD Dm L) Dm i) L lo hi su db S dy li so sp (mix (turn Dm L) tu L) ah M) (fun i : Int => [(0, .ref (h 0)), (1, .ref (h 2)), (2, .int (zI (zc (fun j => decide (turn Dm L j ≠ 0)) 0 i))), (3, .int (zI i))]) (fun i : Int => True) 0 L (by omega) trivial ?_ ?_
    · intro i h0_32 h1_32 hI_32 hk_32
      try dsimp only at hI_32 hk_32 ⊢
      have e1 : mix (turn Dm L) tu L i = turn Dm L i := mix_lt _ _ _ _ (by omega) (by omega)
      have e3 := turn_in Dm L i
      refine j_iload_n (pc := 32) C dX0_letDayGoBy_32 3 rfl ?_
      refine j_aload_n (pc := 33) C dX0_letDayGoBy_33 0 rfl ?_
      refine j_get (pc := 34) C (ref := "GrainSilo") (T := TX0) (N := 15) hin 0 rfl rfl 2 (by decide) (C.w 1 rfl) rfl rfl dX0_letDayGoBy_34 ?_
      refine j_icmp_ge (pc := 37) C 70 dX0_letDayGoBy_37 (by decide) ⟨by omega, by omega⟩ ⟨by omega, by omega⟩ (fun c_37 => absurd c_37 (by omega)) (fun c_37 => ?_)
      refine j_aload_n (pc := 40) C dX0_letDayGoBy_40 0 rfl ?_
      refine j_get (pc := 41) C (ref := "GrainSilo") (T := TX0) (N := 15) hin 0 rfl rfl 12 (by decide) (C.w 2 rfl) rfl rfl dX0_letDayGoBy_41 ?_
      refine j_iload_n (pc := 44) C dX0_letDayGoBy_44 3 rfl ?_
      refine j_iald (pc := 45) C 7 0 rfl rfl (by omega) (by omega) (by decide) dX0_letDayGoBy_45 ?_
      refine j_if_eq (pc := 46) C 64 dX0_letDayGoBy_46 (by decide) ⟨by omega, by omega⟩ (fun c_46 => ?_) (fun c_46 => ?_)
      · skip
        have e2 : turn Dm L i = 0 := by omega
        refine j_iinc (pc := 64) C (lv' := [(0, .ref (h 0)), (1, .ref (h 2)), (2, .int (zI (zc (fun j => decide (turn Dm L j ≠ 0)) 0 i))), (3, .int (zI (i + 1)))]) dX0_letDayGoBy_64 3 rfl (by decide) [1, 2, 3, 0] rfl ?_
        refine j_goto (pc := 67) C 32 dX0_letDayGoBy_67 (by decide) ?_
        exact J.cast (hk_32 trivial) (by first | rw [mix_same (turnD Dm L) Dm i h0_32 (by unfold turnD; omega)] | (rw [mix_up (turnD Dm L) Dm i h0_32, mix_ge (turnD Dm L) Dm i i (Int.le_refl _), e1]; try rfl)) (by first | rw [zc_f (fun j => decide (turn Dm L j ≠ 0)) 0 i h0_32 (decide_eq_false (fun q => q e2))] | rw [zc_t (fun j => decide (turn Dm L j ≠ 0)) 0 i h0_32 (decide_eq_true e2)]) rfl
      · skip
        have e2 : turn Dm L i ≠ 0 := by omega
        refine j_aload_n (pc := 49) C dX0_letDayGoBy_49 1 rfl ?_
        refine j_iload_n (pc := 50) C dX0_letDayGoBy_50 3 rfl ?_
        refine j_dup2 (pc := 51) C dX0_letDayGoBy_51 rfl rfl ?_
        refine j_iald (pc := 52) C 2 0 rfl rfl (by omega) (by omega) (by decide) dX0_letDayGoBy_52 ?_
        refine j_aload_n (pc := 53) C dX0_letDayGoBy_53 0 rfl ?_
        refine j_get (pc := 54) C (ref := "GrainSilo") (T := TX0) (N := 15) hin 0 rfl rfl 12 (by decide) (C.w 2 rfl) rfl rfl dX0_letDayGoBy_54 ?_
        refine j_iload_n (pc := 57) C dX0_letDayGoBy_57 3 rfl ?_
        refine j_iald (pc := 58) C 7 0 rfl rfl (by omega) (by omega) (by decide) dX0_letDayGoBy_58 ?_
        refine j_iadd (pc := 59) C dX0_letDayGoBy_59 ?_
        refine j_iast (pc := 60) C 2 0 rfl rfl (by omega) (by omega) (by decide) (ws' := wG h c1 c2 K (upZ (mix (turnD Dm L) Dm i) i (((mix (turnD Dm L) Dm i) i) + ((mix (turn Dm L) tu L) i))) L lo hi su db S dy li so sp (mix (turn Dm L) tu L) ah M) rfl dX0_letDayGoBy_60 ?_
        refine j_iinc (pc := 61) C (lv' := [(0, .ref (h 0)), (1, .ref (h 2)), (2, .int (zI (zc (fun j => decide (turn Dm L j ≠ 0)) 0 i + 1))), (3, .int (zI i))]) dX0_letDayGoBy_61 2 rfl (by decide) [1, 2, 0, 3] rfl ?_
        refine j_iinc (pc := 64) C (lv' := [(0, .ref (h 0)), (1, .ref (h 2)), (2, .int (zI (zc (fun j => decide (turn Dm L j ≠ 0)) 0 i + 1))), (3, .int (zI (i + 1)))]) dX0_letDayGoBy_64 3 rfl (by decide) [1, 2, 3, 0] rfl ?_
        refine j_goto (pc := 67) C 32 dX0_letDayGoBy_67 (by decide) ?_
        exact J.cast (hk_32 trivial) (by first | rw [mix_same (turnD Dm L) Dm i h0_32 (by unfold turnD; omega)] | (rw [mix_up (turnD Dm L) Dm i h0_32, mix_ge (turnD Dm L) Dm i i (Int.le_refl _), e1]; try rfl)) (by first | rw [zc_f (fun j => decide (turn Dm L j ≠ 0)) 0 i h0_32 (decide_eq_false (fun q => q e2))] | rw [zc_t (fun j => decide (turn Dm L j ≠ 0)) 0 i h0_32 (decide_eq_true e2)]) rfl
    · intro hI_32
      try dsimp only at hI_32 ⊢
      refine j_iload_n (pc := 32) C dX0_letDayGoBy_32 3 rfl ?_
      refine j_aload_n (pc := 33) C dX0_letDayGoBy_33 0 rfl ?_
      refine j_get (pc := 34) C (ref := "GrainSilo") (T := TX0) (N := 15) hin 0 rfl rfl 2 (by decide) (C.w 1 rfl) rfl rfl dX0_letDayGoBy_34 ?_
      refine j_icmp_ge (pc := 37) C 70 dX0_letDayGoBy_37 (by decide) ⟨by omega, by omega⟩ ⟨by omega, by omega⟩ (fun c_37 => ?_) (fun c_37 => absurd c_37 (by omega))
      refine j_iload_n (pc := 70) C dX0_letDayGoBy_70 2 rfl ?_
      exact j_iret (pc := 71) C hr dX0_letDayGoBy_71 (by rfl) (by rfl) (by decide) (by decide)
set_option maxHeartbeats 4000000 in
set_option maxRecDepth 100000 in
theorem kX0_letDaysGoBy_Dm (l : Launch) (D : va_G) (h : Nat → Nat) (c1 c2 c3 : ClassId) (K Dm : Int → Int) (L : Int) (lo hi su db : Int → Int) (S dy li so sp : Int) (tu ah : Int → Int) (M : Int → Int → Int) (a : Int) (hL0 : 0 ≤ L) (hL : L ≤ 12) (h0 : 0 ≤ a) (h1 : a ≤ 50) (hd : ∀ j, 0 ≤ j → j < L → 0 ≤ Dm j ∧ Dm j ≤ 40) : cI l yX0_letDaysGoBy wsX0_letDaysGoBy ({ frames := 3, cells := 0, slots := 0, locals := 70 }) D (tyS c1 c2 c3) [.ref (h 0), .ref (h 2), .int (zI a)] (wG h c1 c2 K Dm L lo hi su db S dy li so sp tu ah M) (wG h c1 c2 K (dayF Dm L a) L lo hi su db S dy li so sp (dayT Dm L tu a) ah M) (zI (dayC Dm L a)) 0 0 := by
  refine cI.of (cc := cX0_letDaysGoBy) (maxL := 5) (ret := .int) (by decide) rfl (lv := [(0, .ref (h 0)), (1, .ref (h 2)), (2, .int (zI a))]) [0, 1, 2] rfl (Nat.le_of_ble_eq_true rfl) ?_
  intro p e s m args below meth c A C hr
  have C : GC p s m args meth c cX0_letDaysGoBy 5 RX0 wsX0_letDaysGoBy D (tyS c1 c2 c3) A := C
  have hin : ∀ w ∈ wsX00, w ∈ wsX0_letDaysGoBy := fun _ h => List.mem_cons_of_mem _ (List.mem_append_right _ h)
  refine j_iconst (pc := 0) C dX0_letDaysGoBy_0 ?_
  refine j_istore_n (pc := 1) C (lv' := [(0, .ref (h 0)), (1, .ref (h 2)), (2, .int (zI a)), (3, .int (zI 0))]) dX0_letDaysGoBy_1 (by decide) [1, 2, 3, 0] rfl ?_
  refine j_iconst (pc := 2) C dX0_letDaysGoBy_2 ?_
  refine j_istore (pc := 3) C (lv' := [(0, .ref (h 0)), (1, .ref (h 2)), (2, .int (zI a)), (3, .int (zI 0)), (4, .int (zI 0))]) dX0_letDaysGoBy_3 (by decide) [1, 2, 3, 4, 0] rfl ?_
  refine J.cast (ws' := wG h c1 c2 K (dayF Dm L 0) L lo hi su db S dy li so sp (dayT Dm L tu 0) ah M) (lv' := [(0, .ref (h 0)), (1, .ref (h 2)), (2, .int (zI a)), (3, .int (zI (dayC Dm L 0))), (4, .int (zI 0))]) ?_ (by rfl) (by rw [dayC_0]) rfl
  refine j_up (fun i : Int => wG h c1 c2 K (dayF Dm L i) L lo hi su db S dy li so sp (dayT Dm L tu i) ah M) (fun i : Int => [(0, .ref (h 0)), (1, .ref (h 2)), (2, .int (zI a)), (3, .int (zI (dayC Dm L i))), (4, .int (zI i))]) (fun i : Int => True) 0 a (by omega) trivial ?_ ?_
  · intro i h0_5 h1_5 hI_5 hk_5
    try dsimp only at hI_5 hk_5 ⊢
    refine j_iload (pc := 5) C dX0_letDaysGoBy_5 4 rfl ?_
    refine j_iload_n (pc := 7) C dX0_letDaysGoBy_7 2 rfl ?_
    refine j_icmp_ge (pc := 8) C 25 dX0_letDaysGoBy_8 (by decide) ⟨by omega, by omega⟩ ⟨by omega, by omega⟩ (fun c_8 => absurd c_8 (by omega)) (fun c_8 => ?_)
    refine j_iload_n (pc := 11) C dX0_letDaysGoBy_11 3 rfl ?_
    refine j_aload_n (pc := 12) C dX0_letDaysGoBy_12 0 rfl ?_
    refine j_aload_n (pc := 13) C dX0_letDaysGoBy_13 1 rfl ?_
    refine j_callI (pc := 14) C (As := [.ref (h 2)]) (rest := [.int (zI (dayC Dm L i))]) (kX0_letDayGoBy_Dm l D h c1 c2 c3 K (dayF Dm L i) L lo hi su db S dy li so sp (dayT Dm L tu i) ah M  (by omega) (by omega) (dayF_in hd i)) (cwV 1 C.2.2.2.2.1 gX0_letDaysGoBy_X0_letDayGoBy rfl rfl rfl (by decide +kernel) ⟨Nat.le_of_ble_eq_true rfl, Nat.le_of_ble_eq_true rfl⟩) 0 (ci := 0) rfl rfl rfl dX0_letDaysGoBy_14 rfl rfl (Nat.le_of_ble_eq_true rfl) (by decide) ?_
    refine j_iadd (pc := 17) C dX0_letDaysGoBy_17 ?_
    refine j_istore_n (pc := 18) C (lv' := [(0, .ref (h 0)), (1, .ref (h 2)), (2, .int (zI a)), (3, .int (zI ((dayC Dm L i) + (turnC (dayF Dm L i) L)))), (4, .int (zI i))]) dX0_letDaysGoBy_18 (by decide) [1, 2, 3, 0, 4] rfl ?_
    refine j_iinc (pc := 19) C (lv' := [(0, .ref (h 0)), (1, .ref (h 2)), (2, .int (zI a)), (3, .int (zI ((dayC Dm L i) + (turnC (dayF Dm L i) L)))), (4, .int (zI (i + 1)))]) dX0_letDaysGoBy_19 4 rfl (by decide) [1, 2, 3, 4, 0] rfl ?_
    refine j_goto (pc := 22) C 5 dX0_letDaysGoBy_22 (by decide) ?_
    exact J.cast (hk_5 trivial) (by rw [dayF_up Dm L i h0_5, dayT_up Dm L tu i h0_5]) (by rw [dayC_up Dm L i h0_5]) rfl
  · intro hI_5
    try dsimp only at hI_5 ⊢
    refine j_iload (pc := 5) C dX0_letDaysGoBy_5 4 rfl ?_
    refine j_iload_n (pc := 7) C dX0_letDaysGoBy_7 2 rfl ?_
    refine j_icmp_ge (pc := 8) C 25 dX0_letDaysGoBy_8 (by decide) ⟨by omega, by omega⟩ ⟨by omega, by omega⟩ (fun c_8 => ?_) (fun c_8 => absurd c_8 (by omega))
    refine j_iload_n (pc := 25) C dX0_letDaysGoBy_25 3 rfl ?_
    exact j_iret (pc := 26) C hr dX0_letDaysGoBy_26 (by rfl) (by rfl) (by decide) (by decide)
set_option maxHeartbeats 4000000 in
set_option maxRecDepth 100000 in
theorem kX0_pullOf_ah (l : Launch) (D : va_G) (h : Nat → Nat) (c1 c2 c3 : ClassId) (K Dm : Int → Int) (L : Int) (lo hi su db : Int → Int) (S dy li so sp : Int) (tu ah : Int → Int) (M : Int → Int → Int) (a b : Int) (hL0 : 0 ≤ L) (hL : L ≤ 12) (h0 : 0 ≤ a) (h1 : a < L) (h2 : -1 ≤ b) (h3 : b ≤ 12) (hd : ∀ j, 0 ≤ j → j < L → 0 ≤ ah j ∧ ah j ≤ 40) : cI l yX0_pullOf wsX0_pullOf ({ frames := 0, cells := 0, slots := 0, locals := 0 }) D (tyS c1 c2 c3) [.ref (h 0), .ref (h 8), .int (zI a), .int (zI b)] (wG h c1 c2 K Dm L lo hi su db S dy li so sp tu ah M) (wG h c1 c2 K Dm L lo hi su db S dy li so sp tu ah M) (zI (pull ah L a b)) 0 0 := by
  refine cI.of (cc := cX0_pullOf) (maxL := 5) (ret := .int) (by decide) rfl (lv := [(0, .ref (h 0)), (1, .ref (h 8)), (2, .int (zI a)), (3, .int (zI b))]) [0, 1, 2, 3] rfl (Nat.le_of_ble_eq_true rfl) ?_
  intro p e s m args below meth c A C hr
  have C : GC p s m args meth c cX0_pullOf 5 RX0 wsX0_pullOf D (tyS c1 c2 c3) A := C
  have hin : ∀ w ∈ wsX00, w ∈ wsX0_pullOf := fun _ h => List.mem_cons_of_mem _ (List.mem_append_right _ h)
  refine j_iload_n (pc := 0) C dX0_pullOf_0 3 rfl ?_
  refine j_if_lt (pc := 1) C 12 dX0_pullOf_1 (by decide) ⟨by omega, by omega⟩ (fun c_1 => ?_) (fun c_1 => ?_)
  · skip
    refine j_iconst (pc := 12) C dX0_pullOf_12 ?_
    exact j_iret (pc := 13) C hr dX0_pullOf_13 (by (unfold pull; first | rw [if_pos (by omega)] | rw [if_neg (by omega), if_pos (by omega)] | rw [if_neg (by omega), if_neg (by omega), if_pos (by omega)] | rw [if_neg (by omega), if_neg (by omega), if_neg (by omega)])) (by rfl) (by decide) (by decide)
  · skip
    refine j_iload_n (pc := 4) C dX0_pullOf_4 3 rfl ?_
    refine j_aload_n (pc := 5) C dX0_pullOf_5 0 rfl ?_
    refine j_get (pc := 6) C (ref := "GrainSilo") (T := TX0) (N := 15) hin 0 rfl rfl 2 (by decide) (C.w 1 rfl) rfl rfl dX0_pullOf_6 ?_
    refine j_icmp_lt (pc := 9) C 14 dX0_pullOf_9 (by decide) ⟨by omega, by omega⟩ ⟨by omega, by omega⟩ (fun c_9 => ?_) (fun c_9 => ?_)
    · skip
      have e1 := hd b (by omega) (by omega)
      have e2 := hd a (by omega) (by omega)
      refine j_aload_n (pc := 14) C dX0_pullOf_14 1 rfl ?_
      refine j_iload_n (pc := 15) C dX0_pullOf_15 3 rfl ?_
      refine j_iald (pc := 16) C 8 0 rfl rfl (by omega) (by omega) (by decide) dX0_pullOf_16 ?_
      refine j_aload_n (pc := 17) C dX0_pullOf_17 1 rfl ?_
      refine j_iload_n (pc := 18) C dX0_pullOf_18 2 rfl ?_
      refine j_iald (pc := 19) C 8 0 rfl rfl (by omega) (by omega) (by decide) dX0_pullOf_19 ?_
      refine j_isub (pc := 20) C dX0_pullOf_20 ?_
      refine j_istore (pc := 21) C (lv' := [(0, .ref (h 0)), (1, .ref (h 8)), (2, .int (zI a)), (3, .int (zI b)), (4, .int (zI ((ah b) - (ah a))))]) dX0_pullOf_21 (by decide) [1, 2, 3, 4, 0] rfl ?_
      refine j_iload (pc := 23) C dX0_pullOf_23 4 rfl ?_
      refine j_iconst (pc := 25) C dX0_pullOf_25 ?_
      refine j_icmp_lt (pc := 26) C 31 dX0_pullOf_26 (by decide) ⟨by omega, by omega⟩ ⟨by omega, by omega⟩ (fun c_26 => ?_) (fun c_26 => ?_)
      · skip
        refine j_iload (pc := 31) C dX0_pullOf_31 4 rfl ?_
        refine j_bipush (pc := 33) C dX0_pullOf_33 (by decide +kernel) ?_
        refine j_icmp_gt (pc := 35) C 42 dX0_pullOf_35 (by decide) ⟨by omega, by omega⟩ ⟨by omega, by omega⟩ (fun c_35 => ?_) (fun c_35 => ?_)
        · skip
          refine j_iconst (pc := 42) C dX0_pullOf_42 ?_
          exact j_iret (pc := 43) C hr dX0_pullOf_43 (by (unfold pull; first | rw [if_pos (by omega)] | rw [if_neg (by omega), if_pos (by omega)] | rw [if_neg (by omega), if_neg (by omega), if_pos (by omega)] | rw [if_neg (by omega), if_neg (by omega), if_neg (by omega)])) (by rfl) (by decide) (by decide)
        · skip
          refine j_iconst (pc := 38) C dX0_pullOf_38 ?_
          refine j_goto (pc := 39) C 43 dX0_pullOf_39 (by decide) ?_
          exact j_iret (pc := 43) C hr dX0_pullOf_43 (by (unfold pull; first | rw [if_pos (by omega)] | rw [if_neg (by omega), if_pos (by omega)] | rw [if_neg (by omega), if_neg (by omega), if_pos (by omega)] | rw [if_neg (by omega), if_neg (by omega), if_neg (by omega)])) (by rfl) (by decide) (by decide)
      · skip
        refine j_iconst (pc := 29) C dX0_pullOf_29 ?_
        exact j_iret (pc := 30) C hr dX0_pullOf_30 (by (unfold pull; first | rw [if_pos (by omega)] | rw [if_neg (by omega), if_pos (by omega)] | rw [if_neg (by omega), if_neg (by omega), if_pos (by omega)] | rw [if_neg (by omega), if_neg (by omega), if_neg (by omega)])) (by rfl) (by decide) (by decide)
    · skip
      refine j_iconst (pc := 12) C dX0_pullOf_12 ?_
      exact j_iret (pc := 13) C hr dX0_pullOf_13 (by (unfold pull; first | rw [if_pos (by omega)] | rw [if_neg (by omega), if_pos (by omega)] | rw [if_neg (by omega), if_neg (by omega), if_pos (by omega)] | rw [if_neg (by omega), if_neg (by omega), if_neg (by omega)])) (by rfl) (by decide) (by decide)
set_option maxHeartbeats 4000000 in
set_option maxRecDepth 100000 in
theorem kX0_turnOf_ah (l : Launch) (D : va_G) (h : Nat → Nat) (c1 c2 c3 : ClassId) (K Dm : Int → Int) (L : Int) (lo hi su db : Int → Int) (S dy li so sp : Int) (tu ah : Int → Int) (M : Int → Int → Int) (a : Int) (hL0 : 0 ≤ L) (hL : L ≤ 12) (h0 : 0 ≤ a) (h1 : a < L) (hd : ∀ j, 0 ≤ j → j < L → 0 ≤ ah j ∧ ah j ≤ 40) : cI l yX0_turnOf wsX0_turnOf ({ frames := 1, cells := 0, slots := 0, locals := 24 }) D (tyS c1 c2 c3) [.ref (h 0), .ref (h 8), .int (zI a)] (wG h c1 c2 K Dm L lo hi su db S dy li so sp tu ah M) (wG h c1 c2 K Dm L lo hi su db S dy li so sp tu ah M) (zI (turn ah L a)) 0 0 := by
  refine cI.of (cc := cX0_turnOf) (maxL := 4) (ret := .int) (by decide) rfl (lv := [(0, .ref (h 0)), (1, .ref (h 8)), (2, .int (zI a))]) [0, 1, 2] rfl (Nat.le_of_ble_eq_true rfl) ?_
  intro p e s m args below meth c A C hr
  have C : GC p s m args meth c cX0_turnOf 4 RX0 wsX0_turnOf D (tyS c1 c2 c3) A := C
  have hin : ∀ w ∈ wsX00, w ∈ wsX0_turnOf := fun _ h => List.mem_cons_of_mem _ (List.mem_append_right _ h)
  refine j_aload_n (pc := 0) C dX0_turnOf_0 0 rfl ?_
  refine j_aload_n (pc := 1) C dX0_turnOf_1 1 rfl ?_
  refine j_iload_n (pc := 2) C dX0_turnOf_2 2 rfl ?_
  refine j_iload_n (pc := 3) C dX0_turnOf_3 2 rfl ?_
  refine j_iconst (pc := 4) C dX0_turnOf_4 ?_
  refine j_isub (pc := 5) C dX0_turnOf_5 ?_
  refine j_callI (pc := 6) C (As := [.ref (h 8), .int (zI a), .int (zI (a - 1))]) (rest := []) (kX0_pullOf_ah l D h c1 c2 c3 K Dm L lo hi su db S dy li so sp tu ah M a (a - 1) (by omega) (by omega) (by omega) (by omega) (by omega) (by omega) hd) (cwV 3 C.2.2.2.2.1 gX0_turnOf_X0_pullOf rfl rfl rfl (by decide +kernel) ⟨Nat.le_of_ble_eq_true rfl, Nat.le_of_ble_eq_true rfl⟩) 0 (ci := 0) rfl rfl rfl dX0_turnOf_6 rfl rfl (Nat.le_of_ble_eq_true rfl) (by decide) ?_
  refine j_aload_n (pc := 9) C dX0_turnOf_9 0 rfl ?_
  refine j_aload_n (pc := 10) C dX0_turnOf_10 1 rfl ?_
  refine j_iload_n (pc := 11) C dX0_turnOf_11 2 rfl ?_
  refine j_iload_n (pc := 12) C dX0_turnOf_12 2 rfl ?_
  refine j_iconst (pc := 13) C dX0_turnOf_13 ?_
  refine j_iadd (pc := 14) C dX0_turnOf_14 ?_
  refine j_callI (pc := 15) C (As := [.ref (h 8), .int (zI a), .int (zI (a + 1))]) (rest := [.int (zI (pull ah L a (a - 1)))]) (kX0_pullOf_ah l D h c1 c2 c3 K Dm L lo hi su db S dy li so sp tu ah M a (a + 1) (by omega) (by omega) (by omega) (by omega) (by omega) (by omega) hd) (cwV 3 C.2.2.2.2.1 gX0_turnOf_X0_pullOf rfl rfl rfl (by decide +kernel) ⟨Nat.le_of_ble_eq_true rfl, Nat.le_of_ble_eq_true rfl⟩) 0 (ci := 0) rfl rfl rfl dX0_turnOf_15 rfl rfl (Nat.le_of_ble_eq_true rfl) (by decide) ?_
  have e1 := pull_in ah L a (a - 1)
  have e2 := pull_in ah L a (a + 1)
  refine j_iadd (pc := 18) C dX0_turnOf_18 ?_
  refine j_istore_n (pc := 19) C (lv' := [(0, .ref (h 0)), (1, .ref (h 8)), (2, .int (zI a)), (3, .int (zI ((pull ah L a (a - 1)) + (pull ah L a (a + 1)))))]) dX0_turnOf_19 (by decide) [1, 2, 3, 0] rfl ?_
  refine j_iload_n (pc := 20) C dX0_turnOf_20 3 rfl ?_
  refine j_if_le (pc := 21) C 26 dX0_turnOf_21 (by decide) ⟨by omega, by omega⟩ (fun c_21 => ?_) (fun c_21 => ?_)
  · skip
    refine j_iload_n (pc := 26) C dX0_turnOf_26 3 rfl ?_
    refine j_if_ge (pc := 27) C 34 dX0_turnOf_27 (by decide) ⟨by omega, by omega⟩ (fun c_27 => ?_) (fun c_27 => ?_)
    · skip
      refine j_iconst (pc := 34) C dX0_turnOf_34 ?_
      exact j_iret (pc := 35) C hr dX0_turnOf_35 (by (unfold turn; first | rw [if_pos (by omega)] | rw [if_neg (by omega), if_pos (by omega)] | rw [if_neg (by omega), if_neg (by omega)])) (by rfl) (by decide) (by decide)
    · skip
      refine j_iconst (pc := 30) C dX0_turnOf_30 ?_
      refine j_goto (pc := 31) C 35 dX0_turnOf_31 (by decide) ?_
      exact j_iret (pc := 35) C hr dX0_turnOf_35 (by (unfold turn; first | rw [if_pos (by omega)] | rw [if_neg (by omega), if_pos (by omega)] | rw [if_neg (by omega), if_neg (by omega)])) (by rfl) (by decide) (by decide)
  · skip
    refine j_iconst (pc := 24) C dX0_turnOf_24 ?_
    exact j_iret (pc := 25) C hr dX0_turnOf_25 (by (unfold turn; first | rw [if_pos (by omega)] | rw [if_neg (by omega), if_pos (by omega)] | rw [if_neg (by omega), if_neg (by omega)])) (by rfl) (by decide) (by decide)
set_option maxHeartbeats 4000000 in
set_option maxRecDepth 100000 in
theorem kX0_letDayGoBy_ah (l : Launch) (D : va_G) (h : Nat → Nat) (c1 c2 c3 : ClassId) (K Dm : Int → Int) (L : Int) (lo hi su db : Int → Int) (S dy li so sp : Int) (tu ah : Int → Int) (M : Int → Int → Int) (hL0 : 0 ≤ L) (hL : L ≤ 12) (hd : ∀ j, 0 ≤ j → j < L → 0 ≤ ah j ∧ ah j ≤ 40) : cI l yX0_letDayGoBy wsX0_letDayGoBy ({ frames := 2, cells := 0, slots := 0, locals := 47 }) D (tyS c1 c2 c3) [.ref (h 0), .ref (h 8)] (wG h c1 c2 K Dm L lo hi su db S dy li so sp tu ah M) (wG h c1 c2 K Dm L lo hi su db S dy li so sp (mix (turn ah L) tu L) (mix (turnD ah L) ah L) M) (zI (turnC ah L)) 0 0 := by
  refine cI.of (cc := cX0_letDayGoBy) (maxL := 4) (ret := .int) (by decide) rfl (lv := [(0, .ref (h 0)), (1, .ref (h 8))]) [0, 1] rfl (Nat.le_of_ble_eq_true rfl) ?_
  intro p e s m args below meth c A C hr
  have C : GC p s m args meth c cX0_letDayGoBy 4 RX0 wsX0_letDayGoBy D (tyS c1 c2 c3) A := C
  have hin : ∀ w ∈ wsX00, w ∈ wsX0_letDayGoBy := fun _ h => List.mem_cons_of_mem _ (List.mem_append_right _ h)
  refine j_iconst (pc := 0) C dX0_letDayGoBy_0 ?_
  refine j_istore_n (pc := 1) C (lv' := [(0, .ref (h 0)), (1, .ref (h 8)), (2, .int (zI 0))]) dX0_letDayGoBy_1 (by decide) [1, 2, 0] rfl ?_
  refine J.cast (ws' := wG h c1 c2 K Dm L lo hi su db S dy li so sp (mix (turn ah L) tu 0) ah M) (lv' := [(0, .ref (h 0)), (1, .ref (h 8)), (2, .int (zI 0))]) ?_ (by rw [mix_0]) (by rfl) rfl
  refine j_up (fun i : Int => wG h c1 c2 K Dm L lo hi su db S dy li so sp (mix (turn ah L) tu i) ah M) (fun i : Int => [(0, .ref (h 0)), (1, .ref (h 8)), (2, .int (zI i))]) (fun i : Int => True) 0 L (by omega) trivial ?_ ?_
  · intro i h0_2 h1_2 hI_2 hk_2
    try dsimp only at hI_2 hk_2 ⊢
    refine j_iload_n (pc := 2) C dX0_letDayGoBy_2 2 rfl ?_
    refine j_aload_n (pc := 3) C dX0_letDayGoBy_3 0 rfl ?_
    refine j_get (pc := 4) C (ref := "GrainSilo") (T := TX0) (N := 15) hin 0 rfl rfl 2 (by decide) (C.w 1 rfl) rfl rfl dX0_letDayGoBy_4 ?_
    refine j_icmp_ge (pc := 7) C 28 dX0_letDayGoBy_7 (by decide) ⟨by omega, by omega⟩ ⟨by omega, by omega⟩ (fun c_7 => absurd c_7 (by omega)) (fun c_7 => ?_)
    refine j_aload_n (pc := 10) C dX0_letDayGoBy_10 0 rfl ?_
    refine j_get (pc := 11) C (ref := "GrainSilo") (T := TX0) (N := 15) hin 0 rfl rfl 12 (by decide) (C.w 2 rfl) rfl rfl dX0_letDayGoBy_11 ?_
    refine j_iload_n (pc := 14) C dX0_letDayGoBy_14 2 rfl ?_
    refine j_aload_n (pc := 15) C dX0_letDayGoBy_15 0 rfl ?_
    refine j_aload_n (pc := 16) C dX0_letDayGoBy_16 1 rfl ?_
    refine j_iload_n (pc := 17) C dX0_letDayGoBy_17 2 rfl ?_
    refine j_callI (pc := 18) C (As := [.ref (h 8), .int (zI i)]) (rest := [.int (zI i), .ref (h 7)]) (kX0_turnOf_ah l D h c1 c2 c3 K Dm L lo hi su db S dy li so sp (mix (turn ah L) tu i) ah M i (by omega) (by omega) (by omega) (by omega) hd) (cwV 2 C.2.2.2.2.1 gX0_letDayGoBy_X0_turnOf rfl rfl rfl (by decide +kernel) ⟨Nat.le_of_ble_eq_true rfl, Nat.le_of_ble_eq_true rfl⟩) 0 (ci := 0) rfl rfl rfl dX0_letDayGoBy_18 rfl rfl (Nat.le_of_ble_eq_true rfl) (by decide) ?_
    refine j_iast (pc := 21) C 7 0 rfl rfl (by omega) (by omega) (by decide) (ws' := wG h c1 c2 K Dm L lo hi su db S dy li so sp (upZ (mix (turn ah L) tu i) i (turn ah L i)) ah M) rfl dX0_letDayGoBy_21 ?_
    refine j_iinc (pc := 22) C (lv' := [(0, .ref (h 0)), (1, .ref (h 8)), (2, .int (zI (i + 1)))]) dX0_letDayGoBy_22 2 rfl (by decide) [1, 2, 0] rfl ?_
    refine j_goto (pc := 25) C 2 dX0_letDayGoBy_25 (by decide) ?_
    exact J.cast (hk_2 trivial) (by rw [mix_up _ tu i h0_2]) (by rfl) rfl
  · intro hI_2
    try dsimp only at hI_2 ⊢
    refine j_iload_n (pc := 2) C dX0_letDayGoBy_2 2 rfl ?_
    refine j_aload_n (pc := 3) C dX0_letDayGoBy_3 0 rfl ?_
    refine j_get (pc := 4) C (ref := "GrainSilo") (T := TX0) (N := 15) hin 0 rfl rfl 2 (by decide) (C.w 1 rfl) rfl rfl dX0_letDayGoBy_4 ?_
    refine j_icmp_ge (pc := 7) C 28 dX0_letDayGoBy_7 (by decide) ⟨by omega, by omega⟩ ⟨by omega, by omega⟩ (fun c_7 => ?_) (fun c_7 => absurd c_7 (by omega))
    refine j_iconst (pc := 28) C dX0_letDayGoBy_28 ?_
    refine j_istore_n (pc := 29) C (lv' := [(0, .ref (h 0)), (1, .ref (h 8)), (2, .int (zI 0))]) dX0_letDayGoBy_29 (by decide) [1, 2, 0] rfl ?_
    refine j_iconst (pc := 30) C dX0_letDayGoBy_30 ?_
    refine j_istore_n (pc := 31) C (lv' := [(0, .ref (h 0)), (1, .ref (h 8)), (2, .int (zI 0)), (3, .int (zI 0))]) dX0_letDayGoBy_31 (by decide) [1, 2, 3, 0] rfl ?_
    refine J.cast (ws' := wG h c1 c2 K Dm L lo hi su db S dy li so sp (mix (turn ah L) tu L) (mix (turnD ah L) ah 0) M) (lv' := [(0, .ref (h 0)), (1, .ref (h 8)), (2, .int (zI (zc (fun j => decide (turn ah L j ≠ 0)) 0 0))), (3, .int (zI 0))]) ?_ (by rw [mix_0]) (by rw [zc_0]) rfl
    refine j_up (fun i : Int => wG h c1 c2 K Dm L lo hi su db S dy li so sp (mix (turn ah L) tu L) (mix (turnD ah L) ah i) M) (fun i : Int => [(0, .ref (h 0)), (1, .ref (h 8)), (2, .int (zI (zc (fun j => decide (turn ah L j ≠ 0)) 0 i))), (3, .int (zI i))]) (fun i : Int => True) 0 L (by omega) trivial ?_ ?_
    · intro i h0_32 h1_32 hI_32 hk_32
      try dsimp only at hI_32 hk_32 ⊢
      have e1 : mix (turn ah L) tu L i = turn ah L i := mix_lt _ _ _ _ (by omega) (by omega)
      have e3 := turn_in ah L i
      refine j_iload_n (pc := 32) C dX0_letDayGoBy_32 3 rfl ?_
      refine j_aload_n (pc := 33) C dX0_letDayGoBy_33 0 rfl ?_
      refine j_get (pc := 34) C (ref := "GrainSilo") (T := TX0) (N := 15) hin 0 rfl rfl 2 (by decide) (C.w 1 rfl) rfl rfl dX0_letDayGoBy_34 ?_
      refine j_icmp_ge (pc := 37) C 70 dX0_letDayGoBy_37 (by decide) ⟨by omega, by omega⟩ ⟨by omega, by omega⟩ (fun c_37 => absurd c_37 (by omega)) (fun c_37 => ?_)
      refine j_aload_n (pc := 40) C dX0_letDayGoBy_40 0 rfl ?_
      refine j_get (pc := 41) C (ref := "GrainSilo") (T := TX0) (N := 15) hin 0 rfl rfl 12 (by decide) (C.w 2 rfl) rfl rfl dX0_letDayGoBy_41 ?_
      refine j_iload_n (pc := 44) C dX0_letDayGoBy_44 3 rfl ?_
      refine j_iald (pc := 45) C 7 0 rfl rfl (by omega) (by omega) (by decide) dX0_letDayGoBy_45 ?_
      refine j_if_eq (pc := 46) C 64 dX0_letDayGoBy_46 (by decide) ⟨by omega, by omega⟩ (fun c_46 => ?_) (fun c_46 => ?_)
      · skip
        have e2 : turn ah L i = 0 := by omega
        refine j_iinc (pc := 64) C (lv' := [(0, .ref (h 0)), (1, .ref (h 8)), (2, .int (zI (zc (fun j => decide (turn ah L j ≠ 0)) 0 i))), (3, .int (zI (i + 1)))]) dX0_letDayGoBy_64 3 rfl (by decide) [1, 2, 3, 0] rfl ?_
        refine j_goto (pc := 67) C 32 dX0_letDayGoBy_67 (by decide) ?_
        exact J.cast (hk_32 trivial) (by first | rw [mix_same (turnD ah L) ah i h0_32 (by unfold turnD; omega)] | (rw [mix_up (turnD ah L) ah i h0_32, mix_ge (turnD ah L) ah i i (Int.le_refl _), e1]; try rfl)) (by first | rw [zc_f (fun j => decide (turn ah L j ≠ 0)) 0 i h0_32 (decide_eq_false (fun q => q e2))] | rw [zc_t (fun j => decide (turn ah L j ≠ 0)) 0 i h0_32 (decide_eq_true e2)]) rfl
      · skip
        have e2 : turn ah L i ≠ 0 := by omega
        refine j_aload_n (pc := 49) C dX0_letDayGoBy_49 1 rfl ?_
        refine j_iload_n (pc := 50) C dX0_letDayGoBy_50 3 rfl ?_
        refine j_dup2 (pc := 51) C dX0_letDayGoBy_51 rfl rfl ?_
        refine j_iald (pc := 52) C 8 0 rfl rfl (by omega) (by omega) (by decide) dX0_letDayGoBy_52 ?_
        refine j_aload_n (pc := 53) C dX0_letDayGoBy_53 0 rfl ?_
        refine j_get (pc := 54) C (ref := "GrainSilo") (T := TX0) (N := 15) hin 0 rfl rfl 12 (by decide) (C.w 2 rfl) rfl rfl dX0_letDayGoBy_54 ?_
        refine j_iload_n (pc := 57) C dX0_letDayGoBy_57 3 rfl ?_
        refine j_iald (pc := 58) C 7 0 rfl rfl (by omega) (by omega) (by decide) dX0_letDayGoBy_58 ?_
        refine j_iadd (pc := 59) C dX0_letDayGoBy_59 ?_
        refine j_iast (pc := 60) C 8 0 rfl rfl (by omega) (by omega) (by decide) (ws' := wG h c1 c2 K Dm L lo hi su db S dy li so sp (mix (turn ah L) tu L) (upZ (mix (turnD ah L) ah i) i (((mix (turnD ah L) ah i) i) + ((mix (turn ah L) tu L) i))) M) rfl dX0_letDayGoBy_60 ?_
        refine j_iinc (pc := 61) C (lv' := [(0, .ref (h 0)), (1, .ref (h 8)), (2, .int (zI (zc (fun j => decide (turn ah L j ≠ 0)) 0 i + 1))), (3, .int (zI i))]) dX0_letDayGoBy_61 2 rfl (by decide) [1, 2, 0, 3] rfl ?_
        refine j_iinc (pc := 64) C (lv' := [(0, .ref (h 0)), (1, .ref (h 8)), (2, .int (zI (zc (fun j => decide (turn ah L j ≠ 0)) 0 i + 1))), (3, .int (zI (i + 1)))]) dX0_letDayGoBy_64 3 rfl (by decide) [1, 2, 3, 0] rfl ?_
        refine j_goto (pc := 67) C 32 dX0_letDayGoBy_67 (by decide) ?_
        exact J.cast (hk_32 trivial) (by first | rw [mix_same (turnD ah L) ah i h0_32 (by unfold turnD; omega)] | (rw [mix_up (turnD ah L) ah i h0_32, mix_ge (turnD ah L) ah i i (Int.le_refl _), e1]; try rfl)) (by first | rw [zc_f (fun j => decide (turn ah L j ≠ 0)) 0 i h0_32 (decide_eq_false (fun q => q e2))] | rw [zc_t (fun j => decide (turn ah L j ≠ 0)) 0 i h0_32 (decide_eq_true e2)]) rfl
    · intro hI_32
      try dsimp only at hI_32 ⊢
      refine j_iload_n (pc := 32) C dX0_letDayGoBy_32 3 rfl ?_
      refine j_aload_n (pc := 33) C dX0_letDayGoBy_33 0 rfl ?_
      refine j_get (pc := 34) C (ref := "GrainSilo") (T := TX0) (N := 15) hin 0 rfl rfl 2 (by decide) (C.w 1 rfl) rfl rfl dX0_letDayGoBy_34 ?_
      refine j_icmp_ge (pc := 37) C 70 dX0_letDayGoBy_37 (by decide) ⟨by omega, by omega⟩ ⟨by omega, by omega⟩ (fun c_37 => ?_) (fun c_37 => absurd c_37 (by omega))
      refine j_iload_n (pc := 70) C dX0_letDayGoBy_70 2 rfl ?_
      exact j_iret (pc := 71) C hr dX0_letDayGoBy_71 (by rfl) (by rfl) (by decide) (by decide)
set_option maxHeartbeats 4000000 in
set_option maxRecDepth 100000 in
theorem kX0_letDaysGoBy_ah (l : Launch) (D : va_G) (h : Nat → Nat) (c1 c2 c3 : ClassId) (K Dm : Int → Int) (L : Int) (lo hi su db : Int → Int) (S dy li so sp : Int) (tu ah : Int → Int) (M : Int → Int → Int) (a : Int) (hL0 : 0 ≤ L) (hL : L ≤ 12) (h0 : 0 ≤ a) (h1 : a ≤ 50) (hd : ∀ j, 0 ≤ j → j < L → 0 ≤ ah j ∧ ah j ≤ 40) : cI l yX0_letDaysGoBy wsX0_letDaysGoBy ({ frames := 3, cells := 0, slots := 0, locals := 70 }) D (tyS c1 c2 c3) [.ref (h 0), .ref (h 8), .int (zI a)] (wG h c1 c2 K Dm L lo hi su db S dy li so sp tu ah M) (wG h c1 c2 K Dm L lo hi su db S dy li so sp (dayT ah L tu a) (dayF ah L a) M) (zI (dayC ah L a)) 0 0 := by
  refine cI.of (cc := cX0_letDaysGoBy) (maxL := 5) (ret := .int) (by decide) rfl (lv := [(0, .ref (h 0)), (1, .ref (h 8)), (2, .int (zI a))]) [0, 1, 2] rfl (Nat.le_of_ble_eq_true rfl) ?_
  intro p e s m args below meth c A C hr
  have C : GC p s m args meth c cX0_letDaysGoBy 5 RX0 wsX0_letDaysGoBy D (tyS c1 c2 c3) A := C
  have hin : ∀ w ∈ wsX00, w ∈ wsX0_letDaysGoBy := fun _ h => List.mem_cons_of_mem _ (List.mem_append_right _ h)
  refine j_iconst (pc := 0) C dX0_letDaysGoBy_0 ?_
  refine j_istore_n (pc := 1) C (lv' := [(0, .ref (h 0)), (1, .ref (h 8)), (2, .int (zI a)), (3, .int (zI 0))]) dX0_letDaysGoBy_1 (by decide) [1, 2, 3, 0] rfl ?_
  refine j_iconst (pc := 2) C dX0_letDaysGoBy_2 ?_
  refine j_istore (pc := 3) C (lv' := [(0, .ref (h 0)), (1, .ref (h 8)), (2, .int (zI a)), (3, .int (zI 0)), (4, .int (zI 0))]) dX0_letDaysGoBy_3 (by decide) [1, 2, 3, 4, 0] rfl ?_
  refine J.cast (ws' := wG h c1 c2 K Dm L lo hi su db S dy li so sp (dayT ah L tu 0) (dayF ah L 0) M) (lv' := [(0, .ref (h 0)), (1, .ref (h 8)), (2, .int (zI a)), (3, .int (zI (dayC ah L 0))), (4, .int (zI 0))]) ?_ (by rfl) (by rw [dayC_0]) rfl
  refine j_up (fun i : Int => wG h c1 c2 K Dm L lo hi su db S dy li so sp (dayT ah L tu i) (dayF ah L i) M) (fun i : Int => [(0, .ref (h 0)), (1, .ref (h 8)), (2, .int (zI a)), (3, .int (zI (dayC ah L i))), (4, .int (zI i))]) (fun i : Int => True) 0 a (by omega) trivial ?_ ?_
  · intro i h0_5 h1_5 hI_5 hk_5
    try dsimp only at hI_5 hk_5 ⊢
    refine j_iload (pc := 5) C dX0_letDaysGoBy_5 4 rfl ?_
    refine j_iload_n (pc := 7) C dX0_letDaysGoBy_7 2 rfl ?_
    refine j_icmp_ge (pc := 8) C 25 dX0_letDaysGoBy_8 (by decide) ⟨by omega, by omega⟩ ⟨by omega, by omega⟩ (fun c_8 => absurd c_8 (by omega)) (fun c_8 => ?_)
    refine j_iload_n (pc := 11) C dX0_letDaysGoBy_11 3 rfl ?_
    refine j_aload_n (pc := 12) C dX0_letDaysGoBy_12 0 rfl ?_
    refine j_aload_n (pc := 13) C dX0_letDaysGoBy_13 1 rfl ?_
    refine j_callI (pc := 14) C (As := [.ref (h 8)]) (rest := [.int (zI (dayC ah L i))]) (kX0_letDayGoBy_ah l D h c1 c2 c3 K Dm L lo hi su db S dy li so sp (dayT ah L tu i) (dayF ah L i) M  (by omega) (by omega) (dayF_in hd i)) (cwV 1 C.2.2.2.2.1 gX0_letDaysGoBy_X0_letDayGoBy rfl rfl rfl (by decide +kernel) ⟨Nat.le_of_ble_eq_true rfl, Nat.le_of_ble_eq_true rfl⟩) 0 (ci := 0) rfl rfl rfl dX0_letDaysGoBy_14 rfl rfl (Nat.le_of_ble_eq_true rfl) (by decide) ?_
    refine j_iadd (pc := 17) C dX0_letDaysGoBy_17 ?_
    refine j_istore_n (pc := 18) C (lv' := [(0, .ref (h 0)), (1, .ref (h 8)), (2, .int (zI a)), (3, .int (zI ((dayC ah L i) + (turnC (dayF ah L i) L)))), (4, .int (zI i))]) dX0_letDaysGoBy_18 (by decide) [1, 2, 3, 0, 4] rfl ?_
    refine j_iinc (pc := 19) C (lv' := [(0, .ref (h 0)), (1, .ref (h 8)), (2, .int (zI a)), (3, .int (zI ((dayC ah L i) + (turnC (dayF ah L i) L)))), (4, .int (zI (i + 1)))]) dX0_letDaysGoBy_19 4 rfl (by decide) [1, 2, 3, 4, 0] rfl ?_
    refine j_goto (pc := 22) C 5 dX0_letDaysGoBy_22 (by decide) ?_
    exact J.cast (hk_5 trivial) (by rw [dayF_up ah L i h0_5, dayT_up ah L tu i h0_5]) (by rw [dayC_up ah L i h0_5]) rfl
  · intro hI_5
    try dsimp only at hI_5 ⊢
    refine j_iload (pc := 5) C dX0_letDaysGoBy_5 4 rfl ?_
    refine j_iload_n (pc := 7) C dX0_letDaysGoBy_7 2 rfl ?_
    refine j_icmp_ge (pc := 8) C 25 dX0_letDaysGoBy_8 (by decide) ⟨by omega, by omega⟩ ⟨by omega, by omega⟩ (fun c_8 => ?_) (fun c_8 => absurd c_8 (by omega))
    refine j_iload_n (pc := 25) C dX0_letDaysGoBy_25 3 rfl ?_
    exact j_iret (pc := 26) C hr dX0_letDaysGoBy_26 (by rfl) (by rfl) (by decide) (by decide)
set_option maxHeartbeats 4000000 in
set_option maxRecDepth 100000 in
theorem kX0_dropSamplesOfLowest (l : Launch) (D : va_G) (h : Nat → Nat) (c1 c2 c3 : ClassId) (K Dm : Int → Int) (L : Int) (lo hi su db : Int → Int) (S dy li so sp : Int) (tu ah : Int → Int) (M : Int → Int → Int) (hS0 : 0 ≤ S) (hS : S ≤ 16) (hlo : ∀ j, 0 ≤ j → j < S → 0 ≤ lo j ∧ lo j ≤ 12) : cV l yX0_dropSamplesOfLowest wsX0_dropSamplesOfLowest ({ frames := 1, cells := 0, slots := 0, locals := 22 }) D (tyS c1 c2 c3) [.ref (h 0)] (wG h c1 c2 K Dm L lo hi su db S dy li so sp tu ah M) (wG h c1 c2 K Dm L (cmp (fun j => decide (0 < lo j)) lo S) (cmp (fun j => decide (0 < lo j)) hi S) (cmp (fun j => decide (0 < lo j)) su S) (cmp (fun j => decide (0 < lo j)) db S) (zc (fun j => decide (0 < lo j)) 0 S) dy li so sp tu ah M) 0 0 := by
  refine cV.of (cc := cX0_dropSamplesOfLowest) (maxL := 3) (by decide) rfl (lv := [(0, .ref (h 0))]) [0] rfl (Nat.le_of_ble_eq_true rfl) ?_
  intro p e s m args below meth c A C hr
  have C : GC p s m args meth c cX0_dropSamplesOfLowest 3 RX0 wsX0_dropSamplesOfLowest D (tyS c1 c2 c3) A := C
  have hin : ∀ w ∈ wsX00, w ∈ wsX0_dropSamplesOfLowest := fun _ h => List.mem_cons_of_mem _ (List.mem_append_right _ h)
  refine j_iconst (pc := 0) C dX0_dropSamplesOfLowest_0 ?_
  refine j_istore_n (pc := 1) C (lv' := [(0, .ref (h 0)), (1, .int (zI 0))]) dX0_dropSamplesOfLowest_1 (by decide) [1, 0] rfl ?_
  refine j_iconst (pc := 2) C dX0_dropSamplesOfLowest_2 ?_
  refine j_istore_n (pc := 3) C (lv' := [(0, .ref (h 0)), (1, .int (zI 0)), (2, .int (zI 0))]) dX0_dropSamplesOfLowest_3 (by decide) [1, 2, 0] rfl ?_
  refine J.cast (ws' := wG h c1 c2 K Dm L (cmp (fun j => decide (0 < lo j)) lo 0) (cmp (fun j => decide (0 < lo j)) hi 0) (cmp (fun j => decide (0 < lo j)) su 0) (cmp (fun j => decide (0 < lo j)) db 0) S dy li so sp tu ah M) (lv' := [(0, .ref (h 0)), (1, .int (zI (zc (fun j => decide (0 < lo j)) 0 0))), (2, .int (zI 0))]) ?_ (by rfl) (by rw [zc_0]) rfl
  refine j_up (fun i : Int => wG h c1 c2 K Dm L (cmp (fun j => decide (0 < lo j)) lo i) (cmp (fun j => decide (0 < lo j)) hi i) (cmp (fun j => decide (0 < lo j)) su i) (cmp (fun j => decide (0 < lo j)) db i) S dy li so sp tu ah M) (fun i : Int => [(0, .ref (h 0)), (1, .int (zI (zc (fun j => decide (0 < lo j)) 0 i))), (2, .int (zI i))]) (fun i : Int => True) 0 S (by omega) trivial ?_ ?_
  · intro i h0_4 h1_4 hI_4 hk_4
    try dsimp only at hI_4 hk_4 ⊢
    have e1 : cmp (fun j => decide (0 < lo j)) lo i i = lo i := cmp_ge _ _ _ h0_4 _ (Int.le_refl _)
    have e3 := zc_le (fun j => decide (0 < lo j)) 0 i h0_4
    have e4 := hlo i h0_4 h1_4
    refine j_iload_n (pc := 4) C dX0_dropSamplesOfLowest_4 2 rfl ?_
    refine j_aload_n (pc := 5) C dX0_dropSamplesOfLowest_5 0 rfl ?_
    refine j_get (pc := 6) C (ref := "GrainSilo") (T := TX0) (N := 15) hin 0 rfl rfl 7 (by decide) (C.w 1 rfl) rfl rfl dX0_dropSamplesOfLowest_6 ?_
    refine j_icmp_ge (pc := 9) C 36 dX0_dropSamplesOfLowest_9 (by decide) ⟨by omega, by omega⟩ ⟨by omega, by omega⟩ (fun c_9 => absurd c_9 (by omega)) (fun c_9 => ?_)
    refine j_aload_n (pc := 12) C dX0_dropSamplesOfLowest_12 0 rfl ?_
    refine j_get (pc := 13) C (ref := "GrainSilo") (T := TX0) (N := 15) hin 0 rfl rfl 3 (by decide) (C.w 2 rfl) rfl rfl dX0_dropSamplesOfLowest_13 ?_
    refine j_iload_n (pc := 16) C dX0_dropSamplesOfLowest_16 2 rfl ?_
    refine j_iald (pc := 17) C 3 0 rfl rfl (by omega) (by omega) (by decide) dX0_dropSamplesOfLowest_17 ?_
    refine j_if_le (pc := 18) C 30 dX0_dropSamplesOfLowest_18 (by decide) ⟨by omega, by omega⟩ (fun c_18 => ?_) (fun c_18 => ?_)
    · skip
      have e2 : ¬ 0 < lo i := by omega
      refine j_iinc (pc := 30) C (lv' := [(0, .ref (h 0)), (1, .int (zI (zc (fun j => decide (0 < lo j)) 0 i))), (2, .int (zI (i + 1)))]) dX0_dropSamplesOfLowest_30 2 rfl (by decide) [1, 2, 0] rfl ?_
      refine j_goto (pc := 33) C 4 dX0_dropSamplesOfLowest_33 (by decide) ?_
      exact J.cast (hk_4 trivial) (by first | rw [cmp_f (fun j => decide (0 < lo j)) lo i h0_4 (decide_eq_false e2), cmp_f (fun j => decide (0 < lo j)) hi i h0_4 (decide_eq_false e2), cmp_f (fun j => decide (0 < lo j)) su i h0_4 (decide_eq_false e2), cmp_f (fun j => decide (0 < lo j)) db i h0_4 (decide_eq_false e2)] | rw [cmp_t (fun j => decide (0 < lo j)) lo i h0_4 (decide_eq_true e2), cmp_t (fun j => decide (0 < lo j)) hi i h0_4 (decide_eq_true e2), cmp_t (fun j => decide (0 < lo j)) su i h0_4 (decide_eq_true e2), cmp_t (fun j => decide (0 < lo j)) db i h0_4 (decide_eq_true e2), e1, cmp_ge (fun j => decide (0 < lo j)) hi i h0_4 i (Int.le_refl _), cmp_ge (fun j => decide (0 < lo j)) su i h0_4 i (Int.le_refl _), cmp_ge (fun j => decide (0 < lo j)) db i h0_4 i (Int.le_refl _)]) (by first | rw [zc_f (fun j => decide (0 < lo j)) 0 i h0_4 (decide_eq_false e2)] | rw [zc_t (fun j => decide (0 < lo j)) 0 i h0_4 (decide_eq_true e2)]) rfl
    · skip
      have e2 : 0 < lo i := by omega
      refine j_aload_n (pc := 21) C dX0_dropSamplesOfLowest_21 0 rfl ?_
      refine j_iload_n (pc := 22) C dX0_dropSamplesOfLowest_22 2 rfl ?_
      refine j_iload_n (pc := 23) C dX0_dropSamplesOfLowest_23 1 rfl ?_
      refine j_callV (pc := 24) C (As := [.int (zI i), .int (zI (zc (fun j => decide (0 < lo j)) 0 i))]) (rest := []) (kX0_moveSample l D h c1 c2 c3 K Dm L (cmp (fun j => decide (0 < lo j)) lo i) (cmp (fun j => decide (0 < lo j)) hi i) (cmp (fun j => decide (0 < lo j)) su i) (cmp (fun j => decide (0 < lo j)) db i) S dy li so sp tu ah M i (zc (fun j => decide (0 < lo j)) 0 i) (by omega) (by omega) (by omega) (by omega)) (cwV 2 C.2.2.2.2.1 gX0_dropSamplesOfLowest_X0_moveSample rfl rfl rfl (by decide +kernel) ⟨Nat.le_of_ble_eq_true rfl, Nat.le_of_ble_eq_true rfl⟩) 0 (ci := 0) rfl rfl rfl dX0_dropSamplesOfLowest_24 rfl rfl (Nat.le_of_ble_eq_true rfl) (by decide) ?_
      refine j_iinc (pc := 27) C (lv' := [(0, .ref (h 0)), (1, .int (zI (zc (fun j => decide (0 < lo j)) 0 i + 1))), (2, .int (zI i))]) dX0_dropSamplesOfLowest_27 1 rfl (by decide) [1, 0, 2] rfl ?_
      refine j_iinc (pc := 30) C (lv' := [(0, .ref (h 0)), (1, .int (zI (zc (fun j => decide (0 < lo j)) 0 i + 1))), (2, .int (zI (i + 1)))]) dX0_dropSamplesOfLowest_30 2 rfl (by decide) [1, 2, 0] rfl ?_
      refine j_goto (pc := 33) C 4 dX0_dropSamplesOfLowest_33 (by decide) ?_
      exact J.cast (hk_4 trivial) (by first | rw [cmp_f (fun j => decide (0 < lo j)) lo i h0_4 (decide_eq_false e2), cmp_f (fun j => decide (0 < lo j)) hi i h0_4 (decide_eq_false e2), cmp_f (fun j => decide (0 < lo j)) su i h0_4 (decide_eq_false e2), cmp_f (fun j => decide (0 < lo j)) db i h0_4 (decide_eq_false e2)] | rw [cmp_t (fun j => decide (0 < lo j)) lo i h0_4 (decide_eq_true e2), cmp_t (fun j => decide (0 < lo j)) hi i h0_4 (decide_eq_true e2), cmp_t (fun j => decide (0 < lo j)) su i h0_4 (decide_eq_true e2), cmp_t (fun j => decide (0 < lo j)) db i h0_4 (decide_eq_true e2), e1, cmp_ge (fun j => decide (0 < lo j)) hi i h0_4 i (Int.le_refl _), cmp_ge (fun j => decide (0 < lo j)) su i h0_4 i (Int.le_refl _), cmp_ge (fun j => decide (0 < lo j)) db i h0_4 i (Int.le_refl _)]) (by first | rw [zc_f (fun j => decide (0 < lo j)) 0 i h0_4 (decide_eq_false e2)] | rw [zc_t (fun j => decide (0 < lo j)) 0 i h0_4 (decide_eq_true e2)]) rfl
  · intro hI_4
    try dsimp only at hI_4 ⊢
    refine j_iload_n (pc := 4) C dX0_dropSamplesOfLowest_4 2 rfl ?_
    refine j_aload_n (pc := 5) C dX0_dropSamplesOfLowest_5 0 rfl ?_
    refine j_get (pc := 6) C (ref := "GrainSilo") (T := TX0) (N := 15) hin 0 rfl rfl 7 (by decide) (C.w 1 rfl) rfl rfl dX0_dropSamplesOfLowest_6 ?_
    refine j_icmp_ge (pc := 9) C 36 dX0_dropSamplesOfLowest_9 (by decide) ⟨by omega, by omega⟩ ⟨by omega, by omega⟩ (fun c_9 => ?_) (fun c_9 => absurd c_9 (by omega))
    refine j_aload_n (pc := 36) C dX0_dropSamplesOfLowest_36 0 rfl ?_
    refine j_iload_n (pc := 37) C dX0_dropSamplesOfLowest_37 1 rfl ?_
    refine j_put (pc := 38) C (ref := "GrainSilo") (T := TX0) (N := 15) (ws' := wG h c1 c2 K Dm L (cmp (fun j => decide (0 < lo j)) lo S) (cmp (fun j => decide (0 < lo j)) hi S) (cmp (fun j => decide (0 < lo j)) su S) (cmp (fun j => decide (0 < lo j)) db S) (zc (fun j => decide (0 < lo j)) 0 S) dy li so sp tu ah M) hin tyX0 tyX0_ok nmX0 0 rfl rfl 7 (by decide) (C.w 1 rfl) rfl rfl (by decide +kernel) (Nat.le_of_ble_eq_true rfl) rfl dX0_dropSamplesOfLowest_38 ?_
    exact j_vret (pc := 41) C hr dX0_dropSamplesOfLowest_41 (by rfl) (by decide) (by decide)
set_option maxHeartbeats 4000000 in
set_option maxRecDepth 100000 in
theorem kX0_cutLowestOffSamples (l : Launch) (D : va_G) (h : Nat → Nat) (c1 c2 c3 : ClassId) (K Dm : Int → Int) (L : Int) (lo hi su db : Int → Int) (S dy li so sp : Int) (tu ah : Int → Int) (M : Int → Int → Int) (a : Int) (hS0 : 0 ≤ S) (hS : S ≤ 16) (hlo : ∀ j, 0 ≤ j → j < S → 0 ≤ lo j ∧ lo j ≤ hi j ∧ hi j < 12) : cV l yX0_cutLowestOffSamples wsX0_cutLowestOffSamples ({ frames := 2, cells := 0, slots := 0, locals := 44 }) D (tyS c1 c2 c3) [.ref (h 0), .int (zI a)] (wG h c1 c2 K Dm L lo hi su db S dy li so sp tu ah M) (wG h c1 c2 K Dm L (cmp (fun j => decide (0 < mix (fun j => if lo j = 0 ∧ 0 < hi j then 1 else lo j) lo S j)) (mix (fun j => if lo j = 0 ∧ 0 < hi j then 1 else lo j) lo S) S) (cmp (fun j => decide (0 < mix (fun j => if lo j = 0 ∧ 0 < hi j then 1 else lo j) lo S j)) hi S) (cmp (fun j => decide (0 < mix (fun j => if lo j = 0 ∧ 0 < hi j then 1 else lo j) lo S j)) (mix (fun j => if lo j = 0 ∧ 0 < hi j then su j - a else su j) su S) S) (cmp (fun j => decide (0 < mix (fun j => if lo j = 0 ∧ 0 < hi j then 1 else lo j) lo S j)) db S) (zc (fun j => decide (0 < mix (fun j => if lo j = 0 ∧ 0 < hi j then 1 else lo j) lo S j)) 0 S) dy li so sp tu ah M) 0 0 := by
  refine cV.of (cc := cX0_cutLowestOffSamples) (maxL := 3) (by decide) rfl (lv := [(0, .ref (h 0)), (1, .int (zI a))]) [0, 1] rfl (Nat.le_of_ble_eq_true rfl) ?_
  intro p e s m args below meth c A C hr
  have C : GC p s m args meth c cX0_cutLowestOffSamples 3 RX0 wsX0_cutLowestOffSamples D (tyS c1 c2 c3) A := C
  have hin : ∀ w ∈ wsX00, w ∈ wsX0_cutLowestOffSamples := fun _ h => List.mem_cons_of_mem _ (List.mem_append_right _ h)
  refine j_iconst (pc := 0) C dX0_cutLowestOffSamples_0 ?_
  refine j_istore_n (pc := 1) C (lv' := [(0, .ref (h 0)), (1, .int (zI a)), (2, .int (zI 0))]) dX0_cutLowestOffSamples_1 (by decide) [1, 2, 0] rfl ?_
  refine J.cast (ws' := wG h c1 c2 K Dm L (mix (fun j => if lo j = 0 ∧ 0 < hi j then 1 else lo j) lo 0) hi (mix (fun j => if lo j = 0 ∧ 0 < hi j then su j - a else su j) su 0) db S dy li so sp tu ah M) (lv' := [(0, .ref (h 0)), (1, .int (zI a)), (2, .int (zI 0))]) ?_ (by rw [mix_0, mix_0]) (by rfl) rfl
  refine j_up (fun i : Int => wG h c1 c2 K Dm L (mix (fun j => if lo j = 0 ∧ 0 < hi j then 1 else lo j) lo i) hi (mix (fun j => if lo j = 0 ∧ 0 < hi j then su j - a else su j) su i) db S dy li so sp tu ah M) (fun i : Int => [(0, .ref (h 0)), (1, .int (zI a)), (2, .int (zI i))]) (fun i : Int => True) 0 S (by omega) trivial ?_ ?_
  · intro i h0_2 h1_2 hI_2 hk_2
    try dsimp only at hI_2 hk_2 ⊢
    have e1 : mix (fun j => if lo j = 0 ∧ 0 < hi j then 1 else lo j) lo i i = lo i := mix_ge _ _ _ _ (Int.le_refl _)
    have e3 : mix (fun j => if lo j = 0 ∧ 0 < hi j then su j - a else su j) su i i = su i := mix_ge _ _ _ _ (Int.le_refl _)
    have e4 := hlo i h0_2 h1_2
    refine j_iload_n (pc := 2) C dX0_cutLowestOffSamples_2 2 rfl ?_
    refine j_aload_n (pc := 3) C dX0_cutLowestOffSamples_3 0 rfl ?_
    refine j_get (pc := 4) C (ref := "GrainSilo") (T := TX0) (N := 15) hin 0 rfl rfl 7 (by decide) (C.w 1 rfl) rfl rfl dX0_cutLowestOffSamples_4 ?_
    refine j_icmp_ge (pc := 7) C 51 dX0_cutLowestOffSamples_7 (by decide) ⟨by omega, by omega⟩ ⟨by omega, by omega⟩ (fun c_7 => absurd c_7 (by omega)) (fun c_7 => ?_)
    refine j_aload_n (pc := 10) C dX0_cutLowestOffSamples_10 0 rfl ?_
    refine j_get (pc := 11) C (ref := "GrainSilo") (T := TX0) (N := 15) hin 0 rfl rfl 3 (by decide) (C.w 2 rfl) rfl rfl dX0_cutLowestOffSamples_11 ?_
    refine j_iload_n (pc := 14) C dX0_cutLowestOffSamples_14 2 rfl ?_
    refine j_iald (pc := 15) C 3 0 rfl rfl (by omega) (by omega) (by decide) dX0_cutLowestOffSamples_15 ?_
    refine j_if_ne (pc := 16) C 45 dX0_cutLowestOffSamples_16 (by decide) ⟨by omega, by omega⟩ (fun c_16 => ?_) (fun c_16 => ?_)
    · skip
      refine j_iinc (pc := 45) C (lv' := [(0, .ref (h 0)), (1, .int (zI a)), (2, .int (zI (i + 1)))]) dX0_cutLowestOffSamples_45 2 rfl (by decide) [1, 2, 0] rfl ?_
      refine j_goto (pc := 48) C 2 dX0_cutLowestOffSamples_48 (by decide) ?_
      exact J.cast (hk_2 trivial) (by first | (rw [mix_same (fun j => if lo j = 0 ∧ 0 < hi j then 1 else lo j) lo i h0_2 (if_neg (by omega)), mix_same (fun j => if lo j = 0 ∧ 0 < hi j then su j - a else su j) su i h0_2 (if_neg (by omega))]) | (rw [mix_up (fun j => if lo j = 0 ∧ 0 < hi j then 1 else lo j) lo i h0_2, mix_up (fun j => if lo j = 0 ∧ 0 < hi j then su j - a else su j) su i h0_2, e3, if_pos (show lo i = 0 ∧ 0 < hi i by omega), if_pos (show lo i = 0 ∧ 0 < hi i by omega)])) (by rfl) rfl
    · skip
      refine j_aload_n (pc := 19) C dX0_cutLowestOffSamples_19 0 rfl ?_
      refine j_get (pc := 20) C (ref := "GrainSilo") (T := TX0) (N := 15) hin 0 rfl rfl 4 (by decide) (C.w 3 rfl) rfl rfl dX0_cutLowestOffSamples_20 ?_
      refine j_iload_n (pc := 23) C dX0_cutLowestOffSamples_23 2 rfl ?_
      refine j_iald (pc := 24) C 4 0 rfl rfl (by omega) (by omega) (by decide) dX0_cutLowestOffSamples_24 ?_
      refine j_if_le (pc := 25) C 45 dX0_cutLowestOffSamples_25 (by decide) ⟨by omega, by omega⟩ (fun c_25 => ?_) (fun c_25 => ?_)
      · skip
        refine j_iinc (pc := 45) C (lv' := [(0, .ref (h 0)), (1, .int (zI a)), (2, .int (zI (i + 1)))]) dX0_cutLowestOffSamples_45 2 rfl (by decide) [1, 2, 0] rfl ?_
        refine j_goto (pc := 48) C 2 dX0_cutLowestOffSamples_48 (by decide) ?_
        exact J.cast (hk_2 trivial) (by first | (rw [mix_same (fun j => if lo j = 0 ∧ 0 < hi j then 1 else lo j) lo i h0_2 (if_neg (by omega)), mix_same (fun j => if lo j = 0 ∧ 0 < hi j then su j - a else su j) su i h0_2 (if_neg (by omega))]) | (rw [mix_up (fun j => if lo j = 0 ∧ 0 < hi j then 1 else lo j) lo i h0_2, mix_up (fun j => if lo j = 0 ∧ 0 < hi j then su j - a else su j) su i h0_2, e3, if_pos (show lo i = 0 ∧ 0 < hi i by omega), if_pos (show lo i = 0 ∧ 0 < hi i by omega)])) (by rfl) rfl
      · skip
        refine j_aload_n (pc := 28) C dX0_cutLowestOffSamples_28 0 rfl ?_
        refine j_get (pc := 29) C (ref := "GrainSilo") (T := TX0) (N := 15) hin 0 rfl rfl 3 (by decide) (C.w 2 rfl) rfl rfl dX0_cutLowestOffSamples_29 ?_
        refine j_iload_n (pc := 32) C dX0_cutLowestOffSamples_32 2 rfl ?_
        refine j_iconst (pc := 33) C dX0_cutLowestOffSamples_33 ?_
        refine j_iast (pc := 34) C 3 0 rfl rfl (by omega) (by omega) (by decide) (ws' := wG h c1 c2 K Dm L (upZ (mix (fun j => if lo j = 0 ∧ 0 < hi j then 1 else lo j) lo i) i 1) hi (mix (fun j => if lo j = 0 ∧ 0 < hi j then su j - a else su j) su i) db S dy li so sp tu ah M) rfl dX0_cutLowestOffSamples_34 ?_
        refine j_aload_n (pc := 35) C dX0_cutLowestOffSamples_35 0 rfl ?_
        refine j_get (pc := 36) C (ref := "GrainSilo") (T := TX0) (N := 15) hin 0 rfl rfl 5 (by decide) (C.w 4 rfl) rfl rfl dX0_cutLowestOffSamples_36 ?_
        refine j_iload_n (pc := 39) C dX0_cutLowestOffSamples_39 2 rfl ?_
        refine j_dup2 (pc := 40) C dX0_cutLowestOffSamples_40 rfl rfl ?_
        refine j_iald (pc := 41) C 5 0 rfl rfl (by omega) (by omega) (by decide) dX0_cutLowestOffSamples_41 ?_
        refine j_iload_n (pc := 42) C dX0_cutLowestOffSamples_42 1 rfl ?_
        refine j_isub (pc := 43) C dX0_cutLowestOffSamples_43 ?_
        refine j_iast (pc := 44) C 5 0 rfl rfl (by omega) (by omega) (by decide) (ws' := wG h c1 c2 K Dm L (upZ (mix (fun j => if lo j = 0 ∧ 0 < hi j then 1 else lo j) lo i) i 1) hi (upZ (mix (fun j => if lo j = 0 ∧ 0 < hi j then su j - a else su j) su i) i (((mix (fun j => if lo j = 0 ∧ 0 < hi j then su j - a else su j) su i) i) - a)) db S dy li so sp tu ah M) rfl dX0_cutLowestOffSamples_44 ?_
        refine j_iinc (pc := 45) C (lv' := [(0, .ref (h 0)), (1, .int (zI a)), (2, .int (zI (i + 1)))]) dX0_cutLowestOffSamples_45 2 rfl (by decide) [1, 2, 0] rfl ?_
        refine j_goto (pc := 48) C 2 dX0_cutLowestOffSamples_48 (by decide) ?_
        exact J.cast (hk_2 trivial) (by first | (rw [mix_same (fun j => if lo j = 0 ∧ 0 < hi j then 1 else lo j) lo i h0_2 (if_neg (by omega)), mix_same (fun j => if lo j = 0 ∧ 0 < hi j then su j - a else su j) su i h0_2 (if_neg (by omega))]) | (rw [mix_up (fun j => if lo j = 0 ∧ 0 < hi j then 1 else lo j) lo i h0_2, mix_up (fun j => if lo j = 0 ∧ 0 < hi j then su j - a else su j) su i h0_2, e3, if_pos (show lo i = 0 ∧ 0 < hi i by omega), if_pos (show lo i = 0 ∧ 0 < hi i by omega)])) (by rfl) rfl
  · intro hI_2
    try dsimp only at hI_2 ⊢
    refine j_iload_n (pc := 2) C dX0_cutLowestOffSamples_2 2 rfl ?_
    refine j_aload_n (pc := 3) C dX0_cutLowestOffSamples_3 0 rfl ?_
    refine j_get (pc := 4) C (ref := "GrainSilo") (T := TX0) (N := 15) hin 0 rfl rfl 7 (by decide) (C.w 1 rfl) rfl rfl dX0_cutLowestOffSamples_4 ?_
    refine j_icmp_ge (pc := 7) C 51 dX0_cutLowestOffSamples_7 (by decide) ⟨by omega, by omega⟩ ⟨by omega, by omega⟩ (fun c_7 => ?_) (fun c_7 => absurd c_7 (by omega))
    refine j_aload_n (pc := 51) C dX0_cutLowestOffSamples_51 0 rfl ?_
    refine j_callV (pc := 52) C (As := []) (rest := []) (kX0_dropSamplesOfLowest l D h c1 c2 c3 K Dm L (mix (fun j => if lo j = 0 ∧ 0 < hi j then 1 else lo j) lo S) hi (mix (fun j => if lo j = 0 ∧ 0 < hi j then su j - a else su j) su S) db S dy li so sp tu ah M  (by omega) (by omega) (fun j h0 h1 => by have := hlo j h0 h1; rw [mix_lt _ _ _ _ h0 h1]; split <;> omega)) (cwV 0 C.2.2.2.2.1 gX0_cutLowestOffSamples_X0_dropSamplesOfLowest rfl rfl rfl (by decide +kernel) ⟨Nat.le_of_ble_eq_true rfl, Nat.le_of_ble_eq_true rfl⟩) 0 (ci := 0) rfl rfl rfl dX0_cutLowestOffSamples_52 rfl rfl (Nat.le_of_ble_eq_true rfl) (by decide) ?_
    exact j_vret (pc := 55) C hr dX0_cutLowestOffSamples_55 (by rfl) (by decide) (by decide)
set_option maxHeartbeats 4000000 in
set_option maxRecDepth 100000 in
theorem kX0_weighNothing (l : Launch) (D : va_G) (h : Nat → Nat) (c1 c2 c3 : ClassId) (K Dm : Int → Int) (L : Int) (lo hi su db : Int → Int) (S dy li so sp : Int) (tu ah : Int → Int) (M : Int → Int → Int) (hL0 : 0 ≤ L) (hL : L ≤ 12) : cV l yX0_weighNothing wsX0_weighNothing ({ frames := 0, cells := 0, slots := 0, locals := 0 }) D (tyS c1 c2 c3) [.ref (h 0)] (wG h c1 c2 K Dm L lo hi su db S dy li so sp tu ah M) (wG h c1 c2 K Dm L lo hi su db S dy li so sp tu ah (matA n40 M L)) 0 0 := by
  refine cV.of (cc := cX0_weighNothing) (maxL := 3) (by decide) rfl (lv := [(0, .ref (h 0))]) [0] rfl (Nat.le_of_ble_eq_true rfl) ?_
  intro p e s m args below meth c A C hr
  have C : GC p s m args meth c cX0_weighNothing 3 RX0 wsX0_weighNothing D (tyS c1 c2 c3) A := C
  have hin : ∀ w ∈ wsX00, w ∈ wsX0_weighNothing := fun _ h => List.mem_cons_of_mem _ (List.mem_append_right _ h)
  refine j_iconst (pc := 0) C dX0_weighNothing_0 ?_
  refine j_istore_n (pc := 1) C (lv' := [(0, .ref (h 0)), (1, .int (zI 0))]) dX0_weighNothing_1 (by decide) [1, 0] rfl ?_
  refine J.cast (ws' := wG h c1 c2 K Dm L lo hi su db S dy li so sp tu ah (mat2 n40 M L 0 0)) (lv' := [(0, .ref (h 0)), (1, .int (zI 0))]) ?_ (by rw [mat2_0]) (by rfl) rfl
  refine j_up (fun i : Int => wG h c1 c2 K Dm L lo hi su db S dy li so sp tu ah (mat2 n40 M L i 0)) (fun i : Int => [(0, .ref (h 0)), (1, .int (zI i))]) (fun i : Int => True) 0 (L + 1) (by omega) trivial ?_ ?_
  · intro i h0_2 h1_2 hI_2 hk_2
    try dsimp only at hI_2 hk_2 ⊢
    refine j_iload_n (pc := 2) C dX0_weighNothing_2 1 rfl ?_
    refine j_aload_n (pc := 3) C dX0_weighNothing_3 0 rfl ?_
    refine j_get (pc := 4) C (ref := "GrainSilo") (T := TX0) (N := 15) hin 0 rfl rfl 2 (by decide) (C.w 1 rfl) rfl rfl dX0_weighNothing_4 ?_
    refine j_icmp_gt (pc := 7) C 55 dX0_weighNothing_7 (by decide) ⟨by omega, by omega⟩ ⟨by omega, by omega⟩ (fun c_7 => absurd c_7 (by omega)) (fun c_7 => ?_)
    refine j_iconst (pc := 10) C dX0_weighNothing_10 ?_
    refine j_istore_n (pc := 11) C (lv' := [(0, .ref (h 0)), (1, .int (zI i)), (2, .int (zI 0))]) dX0_weighNothing_11 (by decide) [1, 2, 0] rfl ?_
    refine J.cast (ws' := wG h c1 c2 K Dm L lo hi su db S dy li so sp tu ah (mat2 n40 M L i 0)) (lv' := [(0, .ref (h 0)), (1, .int (zI i)), (2, .int (zI 0))]) ?_ (by rfl) (by rfl) rfl
    refine j_up (fun j : Int => wG h c1 c2 K Dm L lo hi su db S dy li so sp tu ah (mat2 n40 M L i j)) (fun j : Int => [(0, .ref (h 0)), (1, .int (zI i)), (2, .int (zI j))]) (fun j : Int => True) 0 (L + 1) (by omega) trivial ?_ ?_
    · intro j h0_12 h1_12 hI_12 hk_12
      try dsimp only at hI_12 hk_12 ⊢
      refine j_iload_n (pc := 12) C dX0_weighNothing_12 2 rfl ?_
      refine j_aload_n (pc := 13) C dX0_weighNothing_13 0 rfl ?_
      refine j_get (pc := 14) C (ref := "GrainSilo") (T := TX0) (N := 15) hin 0 rfl rfl 2 (by decide) (C.w 1 rfl) rfl rfl dX0_weighNothing_14 ?_
      refine j_icmp_gt (pc := 17) C 49 dX0_weighNothing_17 (by decide) ⟨by omega, by omega⟩ ⟨by omega, by omega⟩ (fun c_17 => absurd c_17 (by omega)) (fun c_17 => ?_)
      refine j_aload_n (pc := 20) C dX0_weighNothing_20 0 rfl ?_
      refine j_get (pc := 21) C (ref := "GrainSilo") (T := TX0) (N := 15) hin 0 rfl rfl 14 (by decide) (C.w 2 rfl) rfl rfl dX0_weighNothing_21 ?_
      refine j_iload_n (pc := 24) C dX0_weighNothing_24 1 rfl ?_
      refine j_aald (pc := 25) C 9 1 (g := fun j => h (10 + j)) rfl rfl (by omega) (by omega) (by decide) dX0_weighNothing_25 ?_
      refine j_iload_n (pc := 26) C dX0_weighNothing_26 2 rfl ?_
      refine j_iload_n (pc := 27) C dX0_weighNothing_27 2 rfl ?_
      refine j_iload_n (pc := 28) C dX0_weighNothing_28 1 rfl ?_
      refine j_icmp_le (pc := 29) C 41 dX0_weighNothing_29 (by decide) ⟨by omega, by omega⟩ ⟨by omega, by omega⟩ (fun c_29 => ?_) (fun c_29 => ?_)
      · skip
        refine j_iconst (pc := 41) C dX0_weighNothing_41 ?_
        refine j_iast (pc := 42) C (10 + (i).toNat) 0 (wG_row h c1 c2 K Dm L lo hi su db S dy li so sp tu ah (mat2 n40 M L i j) i (by omega) (by omega)) rfl (by omega) (by omega) (by decide) (ws' := wG h c1 c2 K Dm L lo hi su db S dy li so sp tu ah (up2 (mat2 n40 M L i j) i j 0)) (wG_set h c1 c2 K Dm L lo hi su db S dy li so sp tu ah (mat2 n40 M L i j) i j 0 (by omega) (by omega)) dX0_weighNothing_42 ?_
        refine j_iinc (pc := 43) C (lv' := [(0, .ref (h 0)), (1, .int (zI i)), (2, .int (zI (j + 1)))]) dX0_weighNothing_43 2 rfl (by decide) [1, 2, 0] rfl ?_
        refine j_goto (pc := 46) C 12 dX0_weighNothing_46 (by decide) ?_
        exact J.cast (hk_12 trivial) (by (rw [mat2_up n40 M L i j h0_2 h0_12 (by omega)]; first | rw [show n40 i j = (j - i) * 40 from if_pos (by omega)] | rw [show n40 i j = 0 from if_neg (by omega)])) (by rfl) rfl
      · skip
        refine j_iload_n (pc := 32) C dX0_weighNothing_32 2 rfl ?_
        refine j_iload_n (pc := 33) C dX0_weighNothing_33 1 rfl ?_
        refine j_isub (pc := 34) C dX0_weighNothing_34 ?_
        refine j_bipush (pc := 35) C dX0_weighNothing_35 (by decide +kernel) ?_
        refine j_imul (pc := 37) C dX0_weighNothing_37 ?_
        refine j_goto (pc := 38) C 42 dX0_weighNothing_38 (by decide) ?_
        refine j_iast (pc := 42) C (10 + (i).toNat) 0 (wG_row h c1 c2 K Dm L lo hi su db S dy li so sp tu ah (mat2 n40 M L i j) i (by omega) (by omega)) rfl (by omega) (by omega) (by decide) (ws' := wG h c1 c2 K Dm L lo hi su db S dy li so sp tu ah (up2 (mat2 n40 M L i j) i j ((j - i) * 40))) (wG_set h c1 c2 K Dm L lo hi su db S dy li so sp tu ah (mat2 n40 M L i j) i j ((j - i) * 40) (by omega) (by omega)) dX0_weighNothing_42 ?_
        refine j_iinc (pc := 43) C (lv' := [(0, .ref (h 0)), (1, .int (zI i)), (2, .int (zI (j + 1)))]) dX0_weighNothing_43 2 rfl (by decide) [1, 2, 0] rfl ?_
        refine j_goto (pc := 46) C 12 dX0_weighNothing_46 (by decide) ?_
        exact J.cast (hk_12 trivial) (by (rw [mat2_up n40 M L i j h0_2 h0_12 (by omega)]; first | rw [show n40 i j = (j - i) * 40 from if_pos (by omega)] | rw [show n40 i j = 0 from if_neg (by omega)])) (by rfl) rfl
    · intro hI_12
      try dsimp only at hI_12 ⊢
      refine j_iload_n (pc := 12) C dX0_weighNothing_12 2 rfl ?_
      refine j_aload_n (pc := 13) C dX0_weighNothing_13 0 rfl ?_
      refine j_get (pc := 14) C (ref := "GrainSilo") (T := TX0) (N := 15) hin 0 rfl rfl 2 (by decide) (C.w 1 rfl) rfl rfl dX0_weighNothing_14 ?_
      refine j_icmp_gt (pc := 17) C 49 dX0_weighNothing_17 (by decide) ⟨by omega, by omega⟩ ⟨by omega, by omega⟩ (fun c_17 => ?_) (fun c_17 => absurd c_17 (by omega))
      refine j_iinc (pc := 49) C (lv' := [(0, .ref (h 0)), (1, .int (zI (i + 1))), (2, .int (zI ((L + 1))))]) dX0_weighNothing_49 1 rfl (by decide) [1, 0, 2] rfl ?_
      refine j_goto (pc := 52) C 2 dX0_weighNothing_52 (by decide) ?_
      refine J.pick (lv' := [(0, .ref (h 0)), (1, .int (zI (i + 1)))]) [0, 1] rfl ?_
      exact J.cast (hk_2 trivial) (by rw [mat2_row n40 M L i h0_2]) (by rfl) rfl
  · intro hI_2
    try dsimp only at hI_2 ⊢
    refine j_iload_n (pc := 2) C dX0_weighNothing_2 1 rfl ?_
    refine j_aload_n (pc := 3) C dX0_weighNothing_3 0 rfl ?_
    refine j_get (pc := 4) C (ref := "GrainSilo") (T := TX0) (N := 15) hin 0 rfl rfl 2 (by decide) (C.w 1 rfl) rfl rfl dX0_weighNothing_4 ?_
    refine j_icmp_gt (pc := 7) C 55 dX0_weighNothing_7 (by decide) ⟨by omega, by omega⟩ ⟨by omega, by omega⟩ (fun c_7 => ?_) (fun c_7 => absurd c_7 (by omega))
    exact j_vret (pc := 55) C hr dX0_weighNothing_55 (by rfl) (by decide) (by decide)
set_option maxHeartbeats 4000000 in
set_option maxRecDepth 100000 in
theorem kX0_heed (l : Launch) (D : va_G) (h : Nat → Nat) (c1 c2 c3 : ClassId) (K Dm : Int → Int) (L : Int) (lo hi su db : Int → Int) (S dy li so sp : Int) (tu ah : Int → Int) (M : Int → Int → Int) (a b d : Int) (hL0 : 0 ≤ L) (hL : L ≤ 12) (ha0 : 0 ≤ a) (ha1 : a ≤ L) (hb0 : 0 ≤ b) (hb1 : b ≤ L) (hd0 : -1000000 ≤ d) (hd1 : d ≤ 1000000) (hB : ∀ x y, 0 ≤ x → x ≤ L → 0 ≤ y → y ≤ L → -480 ≤ M x y ∧ M x y ≤ 480) (htri : ∀ x y, 0 ≤ x → x ≤ L → 0 ≤ y → y ≤ L → M x y ≤ M x a + M a b + M b y) (hneg : 0 ≤ M b a + d) : cV l yX0_heed wsX0_heed ({ frames := 1, cells := 0, slots := 0, locals := 21 }) D (tyS c1 c2 c3) [.ref (h 0), .int (zI a), .int (zI b), .int (zI d)] (wG h c1 c2 K Dm L lo hi su db S dy li so sp tu ah M) (wG h c1 c2 K Dm L lo hi su db S dy li so sp tu ah (hdM M L a b d)) 0 0 := by
  refine cV.of (cc := cX0_heed) (maxL := 6) (by decide) rfl (lv := [(0, .ref (h 0)), (1, .int (zI a)), (2, .int (zI b)), (3, .int (zI d))]) [0, 1, 2, 3] rfl (Nat.le_of_ble_eq_true rfl) ?_
  intro p e s m args below meth c A C hr
  have C : GC p s m args meth c cX0_heed 6 RX0 wsX0_heed D (tyS c1 c2 c3) A := C
  have hin : ∀ w ∈ wsX00, w ∈ wsX0_heed := fun _ h => List.mem_cons_of_mem _ (List.mem_append_right _ h)
  refine j_iload_n (pc := 0) C dX0_heed_0 3 rfl ?_
  refine j_aload_n (pc := 1) C dX0_heed_1 0 rfl ?_
  refine j_get (pc := 2) C (ref := "GrainSilo") (T := TX0) (N := 15) hin 0 rfl rfl 14 (by decide) (C.w 1 rfl) rfl rfl dX0_heed_2 ?_
  refine j_iload_n (pc := 5) C dX0_heed_5 1 rfl ?_
  refine j_aald (pc := 6) C 9 1 (g := fun j => h (10 + j)) rfl rfl (by omega) (by omega) (by decide) dX0_heed_6 ?_
  refine j_iload_n (pc := 7) C dX0_heed_7 2 rfl ?_
  have q0 := hB a b ha0 ha1 hb0 hb1
  refine j_iald (pc := 8) C (10 + (a).toNat) 0 (wG_row h c1 c2 K Dm L lo hi su db S dy li so sp tu ah M a (by omega) (by omega)) rfl (by omega) (by omega) (by decide) dX0_heed_8 ?_
  refine j_icmp_lt (pc := 9) C 13 dX0_heed_9 (by decide) ⟨by omega, by omega⟩ ⟨by omega, by omega⟩ (fun c_9 => ?_) (fun c_9 => ?_)
  · skip
    refine j_iconst (pc := 13) C dX0_heed_13 ?_
    refine j_istore (pc := 14) C (lv' := [(0, .ref (h 0)), (1, .int (zI a)), (2, .int (zI b)), (3, .int (zI d)), (4, .int (zI 0))]) dX0_heed_14 (by decide) [1, 2, 3, 4, 0] rfl ?_
    refine J.cast (ws' := wG h c1 c2 K Dm L lo hi su db S dy li so sp tu ah (mat2 (hdg M a b d) M L 0 0)) (lv' := [(0, .ref (h 0)), (1, .int (zI a)), (2, .int (zI b)), (3, .int (zI d)), (4, .int (zI 0))]) ?_ (by rw [mat2_0]) (by rfl) rfl
    refine j_up (fun i : Int => wG h c1 c2 K Dm L lo hi su db S dy li so sp tu ah (mat2 (hdg M a b d) M L i 0)) (fun i : Int => [(0, .ref (h 0)), (1, .int (zI a)), (2, .int (zI b)), (3, .int (zI d)), (4, .int (zI i))]) (fun i : Int => True) 0 (L + 1) (by omega) trivial ?_ ?_
    · intro i h0_16 h1_16 hI_16 hk_16
      try dsimp only at hI_16 hk_16 ⊢
      refine j_iload (pc := 16) C dX0_heed_16 4 rfl ?_
      refine j_aload_n (pc := 18) C dX0_heed_18 0 rfl ?_
      refine j_get (pc := 19) C (ref := "GrainSilo") (T := TX0) (N := 15) hin 0 rfl rfl 2 (by decide) (C.w 2 rfl) rfl rfl dX0_heed_19 ?_
      refine j_icmp_gt (pc := 22) C 93 dX0_heed_22 (by decide) ⟨by omega, by omega⟩ ⟨by omega, by omega⟩ (fun c_22 => absurd c_22 (by omega)) (fun c_22 => ?_)
      refine j_iconst (pc := 25) C dX0_heed_25 ?_
      refine j_istore (pc := 26) C (lv' := [(0, .ref (h 0)), (1, .int (zI a)), (2, .int (zI b)), (3, .int (zI d)), (4, .int (zI i)), (5, .int (zI 0))]) dX0_heed_26 (by decide) [1, 2, 3, 4, 5, 0] rfl ?_
      refine J.cast (ws' := wG h c1 c2 K Dm L lo hi su db S dy li so sp tu ah (mat2 (hdg M a b d) M L i 0)) (lv' := [(0, .ref (h 0)), (1, .int (zI a)), (2, .int (zI b)), (3, .int (zI d)), (4, .int (zI i)), (5, .int (zI 0))]) ?_ (by rfl) (by rfl) rfl
      refine j_up (fun j : Int => wG h c1 c2 K Dm L lo hi su db S dy li so sp tu ah (mat2 (hdg M a b d) M L i j)) (fun j : Int => [(0, .ref (h 0)), (1, .int (zI a)), (2, .int (zI b)), (3, .int (zI d)), (4, .int (zI i)), (5, .int (zI j))]) (fun j : Int => True) 0 (L + 1) (by omega) trivial ?_ ?_
      · intro j h0_28 h1_28 hI_28 hk_28
        try dsimp only at hI_28 hk_28 ⊢
        have r1 : mat2 (hdg M a b d) M L i j i j = M i j := mat2_at _ _ _ _ _ h0_16 h0_28 (by omega)
        have r2 : mat2 (hdg M a b d) M L i j i a = M i a := mat2_eq _ _ _ _ _ _ _ (Int.min_eq_left (by omega))
        have r3 : mat2 (hdg M a b d) M L i j b j = M b j := mat2_eq _ _ _ _ _ _ _ (Int.min_eq_left (by omega))
        have q1 := hB i j h0_16 (by omega) h0_28 (by omega)
        have q2 := hB i a h0_16 (by omega) ha0 ha1
        have q3 := hB b j hb0 hb1 h0_28 (by omega)
        refine j_iload (pc := 28) C dX0_heed_28 5 rfl ?_
        refine j_aload_n (pc := 30) C dX0_heed_30 0 rfl ?_
        refine j_get (pc := 31) C (ref := "GrainSilo") (T := TX0) (N := 15) hin 0 rfl rfl 2 (by decide) (C.w 2 rfl) rfl rfl dX0_heed_31 ?_
        refine j_icmp_gt (pc := 34) C 87 dX0_heed_34 (by decide) ⟨by omega, by omega⟩ ⟨by omega, by omega⟩ (fun c_34 => absurd c_34 (by omega)) (fun c_34 => ?_)
        refine j_aload_n (pc := 37) C dX0_heed_37 0 rfl ?_
        refine j_get (pc := 38) C (ref := "GrainSilo") (T := TX0) (N := 15) hin 0 rfl rfl 14 (by decide) (C.w 1 rfl) rfl rfl dX0_heed_38 ?_
        refine j_iload (pc := 41) C dX0_heed_41 4 rfl ?_
        refine j_aald (pc := 43) C 9 1 (g := fun j => h (10 + j)) rfl rfl (by omega) (by omega) (by decide) dX0_heed_43 ?_
        refine j_iload (pc := 44) C dX0_heed_44 5 rfl ?_
        refine j_aload_n (pc := 46) C dX0_heed_46 0 rfl ?_
        refine j_get (pc := 47) C (ref := "GrainSilo") (T := TX0) (N := 15) hin 0 rfl rfl 14 (by decide) (C.w 1 rfl) rfl rfl dX0_heed_47 ?_
        refine j_iload (pc := 50) C dX0_heed_50 4 rfl ?_
        refine j_aald (pc := 52) C 9 1 (g := fun j => h (10 + j)) rfl rfl (by omega) (by omega) (by decide) dX0_heed_52 ?_
        refine j_iload (pc := 53) C dX0_heed_53 5 rfl ?_
        refine j_iald (pc := 55) C (10 + (i).toNat) 0 (wG_row h c1 c2 K Dm L lo hi su db S dy li so sp tu ah (mat2 (hdg M a b d) M L i j) i (by omega) (by omega)) rfl (by omega) (by omega) (by decide) dX0_heed_55 ?_
        refine j_aload_n (pc := 56) C dX0_heed_56 0 rfl ?_
        refine j_get (pc := 57) C (ref := "GrainSilo") (T := TX0) (N := 15) hin 0 rfl rfl 14 (by decide) (C.w 1 rfl) rfl rfl dX0_heed_57 ?_
        refine j_iload (pc := 60) C dX0_heed_60 4 rfl ?_
        refine j_aald (pc := 62) C 9 1 (g := fun j => h (10 + j)) rfl rfl (by omega) (by omega) (by decide) dX0_heed_62 ?_
        refine j_iload_n (pc := 63) C dX0_heed_63 1 rfl ?_
        refine j_iald (pc := 64) C (10 + (i).toNat) 0 (wG_row h c1 c2 K Dm L lo hi su db S dy li so sp tu ah (mat2 (hdg M a b d) M L i j) i (by omega) (by omega)) rfl (by omega) (by omega) (by decide) dX0_heed_64 ?_
        refine j_iload_n (pc := 65) C dX0_heed_65 3 rfl ?_
        refine j_iadd (pc := 66) C dX0_heed_66 ?_
        refine j_aload_n (pc := 67) C dX0_heed_67 0 rfl ?_
        refine j_get (pc := 68) C (ref := "GrainSilo") (T := TX0) (N := 15) hin 0 rfl rfl 14 (by decide) (C.w 1 rfl) rfl rfl dX0_heed_68 ?_
        refine j_iload_n (pc := 71) C dX0_heed_71 2 rfl ?_
        refine j_aald (pc := 72) C 9 1 (g := fun j => h (10 + j)) rfl rfl (by omega) (by omega) (by decide) dX0_heed_72 ?_
        refine j_iload (pc := 73) C dX0_heed_73 5 rfl ?_
        refine j_iald (pc := 75) C (10 + (b).toNat) 0 (wG_row h c1 c2 K Dm L lo hi su db S dy li so sp tu ah (mat2 (hdg M a b d) M L i j) b (by omega) (by omega)) rfl (by omega) (by omega) (by decide) dX0_heed_75 ?_
        refine j_iadd (pc := 76) C dX0_heed_76 ?_
        refine j_min (pc := 77) C (C.w 3 rfl) (C.w 4 rfl) (C.w 5 rfl) (C.w 6 rfl) (by decide) (Nat.le_of_ble_eq_true rfl) (by decide) (by decide) ⟨by omega, by omega⟩ ⟨by omega, by omega⟩ dX0_heed_77 ?_
        refine j_iast (pc := 80) C (10 + (i).toNat) 0 (wG_row h c1 c2 K Dm L lo hi su db S dy li so sp tu ah (mat2 (hdg M a b d) M L i j) i (by omega) (by omega)) rfl (by omega) (by omega) (by decide) (ws' := wG h c1 c2 K Dm L lo hi su db S dy li so sp tu ah (up2 (mat2 (hdg M a b d) M L i j) i j (min ((mat2 (hdg M a b d) M L i j) i j) ((((mat2 (hdg M a b d) M L i j) i a) + d) + ((mat2 (hdg M a b d) M L i j) b j))))) (wG_set h c1 c2 K Dm L lo hi su db S dy li so sp tu ah (mat2 (hdg M a b d) M L i j) i j (min ((mat2 (hdg M a b d) M L i j) i j) ((((mat2 (hdg M a b d) M L i j) i a) + d) + ((mat2 (hdg M a b d) M L i j) b j))) (by omega) (by omega)) dX0_heed_80 ?_
        refine j_iinc (pc := 81) C (lv' := [(0, .ref (h 0)), (1, .int (zI a)), (2, .int (zI b)), (3, .int (zI d)), (4, .int (zI i)), (5, .int (zI (j + 1)))]) dX0_heed_81 5 rfl (by decide) [1, 2, 3, 4, 5, 0] rfl ?_
        refine j_goto (pc := 84) C 28 dX0_heed_84 (by decide) ?_
        exact J.cast (hk_28 trivial) (by (rw [mat2_up (hdg M a b d) M L i j h0_16 h0_28 (by omega), r1, r2, r3]; try rfl)) (by rfl) rfl
      · intro hI_28
        try dsimp only at hI_28 ⊢
        refine j_iload (pc := 28) C dX0_heed_28 5 rfl ?_
        refine j_aload_n (pc := 30) C dX0_heed_30 0 rfl ?_
        refine j_get (pc := 31) C (ref := "GrainSilo") (T := TX0) (N := 15) hin 0 rfl rfl 2 (by decide) (C.w 2 rfl) rfl rfl dX0_heed_31 ?_
        refine j_icmp_gt (pc := 34) C 87 dX0_heed_34 (by decide) ⟨by omega, by omega⟩ ⟨by omega, by omega⟩ (fun c_34 => ?_) (fun c_34 => absurd c_34 (by omega))
        refine j_iinc (pc := 87) C (lv' := [(0, .ref (h 0)), (1, .int (zI a)), (2, .int (zI b)), (3, .int (zI d)), (4, .int (zI (i + 1))), (5, .int (zI ((L + 1))))]) dX0_heed_87 4 rfl (by decide) [1, 2, 3, 4, 0, 5] rfl ?_
        refine j_goto (pc := 90) C 16 dX0_heed_90 (by decide) ?_
        refine J.pick (lv' := [(0, .ref (h 0)), (1, .int (zI a)), (2, .int (zI b)), (3, .int (zI d)), (4, .int (zI (i + 1)))]) [0, 1, 2, 3, 4] rfl ?_
        exact J.cast (hk_16 trivial) (by rw [mat2_row (hdg M a b d) M L i h0_16]) (by rfl) rfl
    · intro hI_16
      try dsimp only at hI_16 ⊢
      refine j_iload (pc := 16) C dX0_heed_16 4 rfl ?_
      refine j_aload_n (pc := 18) C dX0_heed_18 0 rfl ?_
      refine j_get (pc := 19) C (ref := "GrainSilo") (T := TX0) (N := 15) hin 0 rfl rfl 2 (by decide) (C.w 2 rfl) rfl rfl dX0_heed_19 ?_
      refine j_icmp_gt (pc := 22) C 93 dX0_heed_22 (by decide) ⟨by omega, by omega⟩ ⟨by omega, by omega⟩ (fun c_22 => ?_) (fun c_22 => absurd c_22 (by omega))
      exact j_vret (pc := 93) C hr dX0_heed_93 (by rfl) (by decide) (by decide)
  · skip
    exact j_vret (pc := 12) C hr dX0_heed_12 (by rw [show hdM M L a b d = M from matA_same _ _ _ (fun x y x0 x1 y0 y1 => by have := htri x y x0 x1 y0 y1; exact Int.min_eq_left (by omega))]) (by decide) (by decide)
