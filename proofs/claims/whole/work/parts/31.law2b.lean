/-! ===== the law's cases, 2 ===== -/
set_option maxHeartbeats 4000000 in
set_option maxRecDepth 100000 in
theorem lw_sumOf {p : Program} {l : Launch} {e : Env} {s : State} {m : MethodId} {args : Array Value} {below : List Frame} {meth : Method} {c : Code} {D : va_G} {A : Nat → Prop} {cells slots : Nat} {Q : State → Prop} {c1 c2 c3 : ClassId} {h k : Nat → Nat} {o9 sb n : Nat} {xs : Nat → Int32} (C : GC p s m args meth c cL_law 9 RL wsL_law D (tyS c1 c2 c3) A) (htr : l.stackTraces = false) (hx : xF A s s.heap) (hX : va_X sb n xs s s.heap) (hbl : sb < s.heap.size) (hbA : ¬ A sb) {i : Int} (i0 : 0 ≤ i) (i1 : i + 2 < n) (hn : n ≤ 1536) (hcl : cells + 1 ≤ room_1.cells) (hsl : slots + 9 ≤ room_1.slots) {t : Int} (t0 : 0 ≤ t) (t1 : t < 512) {K Dm : Int → Int} {L : Int} {lo hi su db : Int → Int} {S dy li so sp : Int} {tu ah : Int → Int} {M : Int → Int → Int} {f9 : Nat → Int64} {th : Int} {K' Dm' lo' hi' su' db' : Int → Int} {X : Int → Int → Int} {ke se : Int → Int} (r : Rel t K Dm L lo hi su db S li K' Dm' lo' hi' su' db') (kont : ∀ w, LI (t + 1) c1 c2 c3 h k o9 w → J p l e room_1 s m args below meth c 9 D A (cells + 1) (slots + 9) Q w [(0, .ref sb), (1, .ref (h 0)), (2, .ref (k 0)), (3, .ref o9), (4, .int (zI i))] 1713 []) : J p l e room_1 s m args below meth c 9 D A cells slots Q ((wG h c1 c2 K Dm L lo hi su db S dy li so sp tu ah M ++ [(o9, .inl (c3, 1, .inr (.inl f9)))]) ++ wN k c1 th L K' Dm' S lo' hi' su' db' dy li so sp X ke se) [(0, .ref sb), (1, .ref (h 0)), (2, .ref (k 0)), (3, .ref o9), (4, .int (zI i))] 713 [] := by
  obtain ⟨⟨⟨hL0, hL⟩, ⟨hS0, hS⟩, hf, hs⟩, hd, hk, ⟨l0, l1⟩, eK, eD, e1, e2, e3, e4⟩ := id r
  obtain ⟨a, ea⟩ : ∃ a, (xs (i + 1).toNat).toInt = a := ⟨_, rfl⟩
  obtain ⟨b, eb⟩ : ∃ b, (xs (i + 2).toNat).toInt = b := ⟨_, rfl⟩
  have ha : zR a := by rw [← ea]; exact zR_of _
  have hb : zR b := by rw [← eb]; exact zR_of _
  obtain ⟨ha1, ha2⟩ := id ha
  obtain ⟨hb1, hb2⟩ := id hb
  by_cases hq0 : 0 ≤ a ∧ a < S
  case neg =>
    refine j_aload_n (pc := 713) C dL_law_713 1 rfl ?_
    refine j_aload_n (pc := 714) C dL_law_714 0 rfl ?_
    refine j_iload (pc := 715) C dL_law_715 4 rfl ?_
    refine j_iconst (pc := 717) C dL_law_717 ?_
    refine j_iadd (pc := 718) C dL_law_718 ?_
    refine j_sld (pc := 719) C hX hbl hbA hn (by omega) (by omega) ea dL_law_719 ?_
    refine j_aload_n (pc := 720) C dL_law_720 3 rfl ?_
    refine j_callSIX (pc := 721) C htr hx (As := [.ref (h 0), .int (zI a), .ref o9]) (rest := []) rfl (kL_sumOf_x1 l D h c1 c2 c3 K Dm L lo hi su db S dy li so sp tu ah M o9 f9 a (by omega) (by omega) ha (by omega)) (vx_cwSW 3 C.2.2.2.2.1 gL_law_L_sumOf rfl rfl rfl (by decide +kernel) ⟨Nat.le_of_ble_eq_true rfl, Nat.le_of_ble_eq_true rfl⟩) dL_law_721 rfl rfl (Nat.le_of_ble_eq_true rfl) ⟨by omega, by omega⟩ ?_
    refine j_istore (pc := 724) C dL_law_724 (by decide) [1, 2, 3, 4, 5, 0] rfl ?_
    refine j_aload_n (pc := 726) C dL_law_726 2 rfl ?_
    refine j_aload_n (pc := 727) C dL_law_727 0 rfl ?_
    refine j_iload (pc := 728) C dL_law_728 4 rfl ?_
    refine j_iconst (pc := 730) C dL_law_730 ?_
    refine j_iadd (pc := 731) C dL_law_731 ?_
    refine j_sld (pc := 732) C hX hbl hbA hn (by omega) (by omega) ea dL_law_732 ?_
    refine J.swap ?_
    refine j_callFI (pc := 733) C (As := [.int (zI a)]) (rest := []) (kX1_sumOf_no1 l D k c1 c2 c3 th L K' Dm' S lo' hi' su' db' dy li so sp X ke se a (by omega) (by omega) ha (by omega)) [0, 1, 2] rfl (cwV 1 C.2.2.2.2.1 gL_law_X1_sumOf rfl rfl rfl (by decide +kernel) ⟨Nat.le_of_ble_eq_true rfl, Nat.le_of_ble_eq_true rfl⟩) 0 (ci := 1) rfl rfl rfl dL_law_733 rfl rfl (Nat.le_of_ble_eq_true rfl) ⟨by omega, by omega⟩ ?_
    refine j_istore (pc := 736) C dL_law_736 (by decide) [1, 2, 3, 4, 5, 6, 0] rfl ?_
    refine j_aload_n (pc := 738) C dL_law_738 2 rfl ?_
    refine j_callFI (pc := 739) C (As := []) (rest := []) (kX1_thrown l D k c1 c2 c3 _ _ _ _ _ _ _ _ _ _ _ _ _ _ _ _) [0, 1, 2] rfl (cwV 0 C.2.2.2.2.1 gL_law_X1_thrown rfl rfl rfl (by decide +kernel) ⟨Nat.le_of_ble_eq_true rfl, Nat.le_of_ble_eq_true rfl⟩) 0 (ci := 1) rfl rfl rfl dL_law_739 rfl rfl (Nat.le_of_ble_eq_true rfl) ⟨by omega, by omega⟩ ?_
    refine j_iload (pc := 742) C dL_law_742 5 rfl ?_
    refine j_icmp_eq (pc := 744) C 749 (a := 1) (b := 1) dL_law_744 (by decide) ⟨by decide, by decide⟩ ⟨by decide, by decide⟩ (fun _ => ?_) (fun q => absurd rfl q)
    refine j_iload (pc := 749) C dL_law_749 5 rfl ?_
    refine j_if_ne (pc := 751) C 766 dL_law_751 (by decide) ⟨by decide, by decide⟩ (fun _ => ?_) (fun q => absurd q (by decide))
    refine j_goto (pc := 766) C 1713 dL_law_766 (by decide) ?_
    refine J.swap ?_
    refine J.pick [0, 1, 2, 3, 4] rfl ?_
    refine J.widen (k := cells + 1) (n := slots + 9) (by omega) (by omega) (kont _ ?_)
    exact ⟨_, _, _, _, _, _, _, _, _, _, _, _, _, _, _, _, _, _, _, _, _, _, _, _, _, _, rfl, r.up⟩
  refine j_aload_n (pc := 713) C dL_law_713 1 rfl ?_
  refine j_aload_n (pc := 714) C dL_law_714 0 rfl ?_
  refine j_iload (pc := 715) C dL_law_715 4 rfl ?_
  refine j_iconst (pc := 717) C dL_law_717 ?_
  refine j_iadd (pc := 718) C dL_law_718 ?_
  refine j_sld (pc := 719) C hX hbl hbA hn (by omega) (by omega) ea dL_law_719 ?_
  refine j_aload_n (pc := 720) C dL_law_720 3 rfl ?_
  refine j_callSIX (pc := 721) C htr hx (As := [.ref (h 0), .int (zI a), .ref o9]) (rest := []) rfl (kL_sumOf l D h c1 c2 c3 K Dm L lo hi su db S dy li so sp tu ah M o9 f9 a (by omega) (by omega) (by omega)) (vx_cwSW 3 C.2.2.2.2.1 gL_law_L_sumOf rfl rfl rfl (by decide +kernel) ⟨Nat.le_of_ble_eq_true rfl, Nat.le_of_ble_eq_true rfl⟩) dL_law_721 rfl rfl (Nat.le_of_ble_eq_true rfl) ⟨by omega, by omega⟩ ?_
  refine j_istore (pc := 724) C dL_law_724 (by decide) [1, 2, 3, 4, 5, 0] rfl ?_
  refine j_aload_n (pc := 726) C dL_law_726 2 rfl ?_
  refine j_aload_n (pc := 727) C dL_law_727 0 rfl ?_
  refine j_iload (pc := 728) C dL_law_728 4 rfl ?_
  refine j_iconst (pc := 730) C dL_law_730 ?_
  refine j_iadd (pc := 731) C dL_law_731 ?_
  refine j_sld (pc := 732) C hX hbl hbA hn (by omega) (by omega) ea dL_law_732 ?_
  refine J.swap ?_
  refine j_callFI (pc := 733) C (As := [.int (zI a)]) (rest := []) (kX1_sumOf l D k c1 c2 c3 th L K' Dm' S lo' hi' su' db' dy li so sp X ke se a (by omega) (by omega) (by omega)) [0, 1, 2] rfl (cwV 1 C.2.2.2.2.1 gL_law_X1_sumOf rfl rfl rfl (by decide +kernel) ⟨Nat.le_of_ble_eq_true rfl, Nat.le_of_ble_eq_true rfl⟩) 0 (ci := 1) rfl rfl rfl dL_law_733 rfl rfl (Nat.le_of_ble_eq_true rfl) ⟨by omega, by omega⟩ ?_
  refine j_istore (pc := 736) C dL_law_736 (by decide) [1, 2, 3, 4, 5, 6, 0] rfl ?_
  refine j_aload_n (pc := 738) C dL_law_738 2 rfl ?_
  refine j_callFI (pc := 739) C (As := []) (rest := []) (kX1_thrown l D k c1 c2 c3 _ _ _ _ _ _ _ _ _ _ _ _ _ _ _ _) [0, 1, 2] rfl (cwV 0 C.2.2.2.2.1 gL_law_X1_thrown rfl rfl rfl (by decide +kernel) ⟨Nat.le_of_ble_eq_true rfl, Nat.le_of_ble_eq_true rfl⟩) 0 (ci := 1) rfl rfl rfl dL_law_739 rfl rfl (Nat.le_of_ble_eq_true rfl) ⟨by omega, by omega⟩ ?_
  refine j_iload (pc := 742) C dL_law_742 5 rfl ?_
  refine j_icmp_eq (pc := 744) C 749 (a := 0) (b := 0) dL_law_744 (by decide) ⟨by decide, by decide⟩ ⟨by decide, by decide⟩ (fun _ => ?_) (fun q => absurd rfl q)
  refine j_iload (pc := 749) C dL_law_749 5 rfl ?_
  refine j_if_ne (pc := 751) C 766 dL_law_751 (by decide) ⟨by decide, by decide⟩ (fun q => absurd rfl q) (fun _ => ?_)
  refine j_aload_n (pc := 754) C dL_law_754 3 rfl ?_
  refine j_iconst (pc := 755) C dL_law_755 ?_
  refine j_lald (pc := 756) C 33 2 rfl rfl (by decide) (by decide) dL_law_756 ?_
  refine j_iload (pc := 757) C dL_law_757 6 rfl ?_
  refine j_i2l (pc := 759) C dL_law_759 ?_
  refine j_lcmpE (pc := 760) C (lw_eq (e3 a (by omega) (by omega))) dL_law_760 ?_
  refine j_if_eq (pc := 761) C 766 dL_law_761 (by decide) ⟨by decide, by decide⟩ (fun _ => ?_) (fun q => absurd rfl q)
  refine j_goto (pc := 766) C 1713 dL_law_766 (by decide) ?_
  refine J.swap ?_
  refine J.pick [0, 1, 2, 3, 4] rfl ?_
  refine J.widen (k := cells + 1) (n := slots + 9) (by omega) (by omega) (kont _ ?_)
  exact ⟨_, _, _, _, _, _, _, _, _, _, _, _, _, _, _, _, _, _, _, _, _, _, _, _, _, _, rfl, r.up⟩
set_option maxHeartbeats 4000000 in
set_option maxRecDepth 100000 in
theorem lw_doubtOf {p : Program} {l : Launch} {e : Env} {s : State} {m : MethodId} {args : Array Value} {below : List Frame} {meth : Method} {c : Code} {D : va_G} {A : Nat → Prop} {cells slots : Nat} {Q : State → Prop} {c1 c2 c3 : ClassId} {h k : Nat → Nat} {o9 sb n : Nat} {xs : Nat → Int32} (C : GC p s m args meth c cL_law 9 RL wsL_law D (tyS c1 c2 c3) A) (htr : l.stackTraces = false) (hx : xF A s s.heap) (hX : va_X sb n xs s s.heap) (hbl : sb < s.heap.size) (hbA : ¬ A sb) {i : Int} (i0 : 0 ≤ i) (i1 : i + 2 < n) (hn : n ≤ 1536) (hcl : cells + 1 ≤ room_1.cells) (hsl : slots + 9 ≤ room_1.slots) {t : Int} (t0 : 0 ≤ t) (t1 : t < 512) {K Dm : Int → Int} {L : Int} {lo hi su db : Int → Int} {S dy li so sp : Int} {tu ah : Int → Int} {M : Int → Int → Int} {f9 : Nat → Int64} {th : Int} {K' Dm' lo' hi' su' db' : Int → Int} {X : Int → Int → Int} {ke se : Int → Int} (r : Rel t K Dm L lo hi su db S li K' Dm' lo' hi' su' db') (kont : ∀ w, LI (t + 1) c1 c2 c3 h k o9 w → J p l e room_1 s m args below meth c 9 D A (cells + 1) (slots + 9) Q w [(0, .ref sb), (1, .ref (h 0)), (2, .ref (k 0)), (3, .ref o9), (4, .int (zI i))] 1713 []) : J p l e room_1 s m args below meth c 9 D A cells slots Q ((wG h c1 c2 K Dm L lo hi su db S dy li so sp tu ah M ++ [(o9, .inl (c3, 1, .inr (.inl f9)))]) ++ wN k c1 th L K' Dm' S lo' hi' su' db' dy li so sp X ke se) [(0, .ref sb), (1, .ref (h 0)), (2, .ref (k 0)), (3, .ref o9), (4, .int (zI i))] 769 [] := by
  obtain ⟨⟨⟨hL0, hL⟩, ⟨hS0, hS⟩, hf, hs⟩, hd, hk, ⟨l0, l1⟩, eK, eD, e1, e2, e3, e4⟩ := id r
  obtain ⟨a, ea⟩ : ∃ a, (xs (i + 1).toNat).toInt = a := ⟨_, rfl⟩
  obtain ⟨b, eb⟩ : ∃ b, (xs (i + 2).toNat).toInt = b := ⟨_, rfl⟩
  have ha : zR a := by rw [← ea]; exact zR_of _
  have hb : zR b := by rw [← eb]; exact zR_of _
  obtain ⟨ha1, ha2⟩ := id ha
  obtain ⟨hb1, hb2⟩ := id hb
  by_cases hq0 : 0 ≤ a ∧ a < S
  case neg =>
    refine j_aload_n (pc := 769) C dL_law_769 1 rfl ?_
    refine j_aload_n (pc := 770) C dL_law_770 0 rfl ?_
    refine j_iload (pc := 771) C dL_law_771 4 rfl ?_
    refine j_iconst (pc := 773) C dL_law_773 ?_
    refine j_iadd (pc := 774) C dL_law_774 ?_
    refine j_sld (pc := 775) C hX hbl hbA hn (by omega) (by omega) ea dL_law_775 ?_
    refine j_aload_n (pc := 776) C dL_law_776 3 rfl ?_
    refine j_callSIX (pc := 777) C htr hx (As := [.ref (h 0), .int (zI a), .ref o9]) (rest := []) rfl (kL_doubtOf_x1 l D h c1 c2 c3 K Dm L lo hi su db S dy li so sp tu ah M o9 f9 a (by omega) (by omega) ha (by omega)) (vx_cwSW 3 C.2.2.2.2.1 gL_law_L_doubtOf rfl rfl rfl (by decide +kernel) ⟨Nat.le_of_ble_eq_true rfl, Nat.le_of_ble_eq_true rfl⟩) dL_law_777 rfl rfl (Nat.le_of_ble_eq_true rfl) ⟨by omega, by omega⟩ ?_
    refine j_istore (pc := 780) C dL_law_780 (by decide) [1, 2, 3, 4, 5, 0] rfl ?_
    refine j_aload_n (pc := 782) C dL_law_782 2 rfl ?_
    refine j_aload_n (pc := 783) C dL_law_783 0 rfl ?_
    refine j_iload (pc := 784) C dL_law_784 4 rfl ?_
    refine j_iconst (pc := 786) C dL_law_786 ?_
    refine j_iadd (pc := 787) C dL_law_787 ?_
    refine j_sld (pc := 788) C hX hbl hbA hn (by omega) (by omega) ea dL_law_788 ?_
    refine J.swap ?_
    refine j_callFI (pc := 789) C (As := [.int (zI a)]) (rest := []) (kX1_doubtOf_no1 l D k c1 c2 c3 th L K' Dm' S lo' hi' su' db' dy li so sp X ke se a (by omega) (by omega) ha (by omega)) [0, 1, 2] rfl (cwV 1 C.2.2.2.2.1 gL_law_X1_doubtOf rfl rfl rfl (by decide +kernel) ⟨Nat.le_of_ble_eq_true rfl, Nat.le_of_ble_eq_true rfl⟩) 0 (ci := 1) rfl rfl rfl dL_law_789 rfl rfl (Nat.le_of_ble_eq_true rfl) ⟨by omega, by omega⟩ ?_
    refine j_istore (pc := 792) C dL_law_792 (by decide) [1, 2, 3, 4, 5, 6, 0] rfl ?_
    refine j_aload_n (pc := 794) C dL_law_794 2 rfl ?_
    refine j_callFI (pc := 795) C (As := []) (rest := []) (kX1_thrown l D k c1 c2 c3 _ _ _ _ _ _ _ _ _ _ _ _ _ _ _ _) [0, 1, 2] rfl (cwV 0 C.2.2.2.2.1 gL_law_X1_thrown rfl rfl rfl (by decide +kernel) ⟨Nat.le_of_ble_eq_true rfl, Nat.le_of_ble_eq_true rfl⟩) 0 (ci := 1) rfl rfl rfl dL_law_795 rfl rfl (Nat.le_of_ble_eq_true rfl) ⟨by omega, by omega⟩ ?_
    refine j_iload (pc := 798) C dL_law_798 5 rfl ?_
    refine j_icmp_eq (pc := 800) C 805 (a := 1) (b := 1) dL_law_800 (by decide) ⟨by decide, by decide⟩ ⟨by decide, by decide⟩ (fun _ => ?_) (fun q => absurd rfl q)
    refine j_iload (pc := 805) C dL_law_805 5 rfl ?_
    refine j_if_ne (pc := 807) C 822 dL_law_807 (by decide) ⟨by decide, by decide⟩ (fun _ => ?_) (fun q => absurd q (by decide))
    refine j_goto (pc := 822) C 1713 dL_law_822 (by decide) ?_
    refine J.swap ?_
    refine J.pick [0, 1, 2, 3, 4] rfl ?_
    refine J.widen (k := cells + 1) (n := slots + 9) (by omega) (by omega) (kont _ ?_)
    exact ⟨_, _, _, _, _, _, _, _, _, _, _, _, _, _, _, _, _, _, _, _, _, _, _, _, _, _, rfl, r.up⟩
  refine j_aload_n (pc := 769) C dL_law_769 1 rfl ?_
  refine j_aload_n (pc := 770) C dL_law_770 0 rfl ?_
  refine j_iload (pc := 771) C dL_law_771 4 rfl ?_
  refine j_iconst (pc := 773) C dL_law_773 ?_
  refine j_iadd (pc := 774) C dL_law_774 ?_
  refine j_sld (pc := 775) C hX hbl hbA hn (by omega) (by omega) ea dL_law_775 ?_
  refine j_aload_n (pc := 776) C dL_law_776 3 rfl ?_
  refine j_callSIX (pc := 777) C htr hx (As := [.ref (h 0), .int (zI a), .ref o9]) (rest := []) rfl (kL_doubtOf l D h c1 c2 c3 K Dm L lo hi su db S dy li so sp tu ah M o9 f9 a (by omega) (by omega) (by omega)) (vx_cwSW 3 C.2.2.2.2.1 gL_law_L_doubtOf rfl rfl rfl (by decide +kernel) ⟨Nat.le_of_ble_eq_true rfl, Nat.le_of_ble_eq_true rfl⟩) dL_law_777 rfl rfl (Nat.le_of_ble_eq_true rfl) ⟨by omega, by omega⟩ ?_
  refine j_istore (pc := 780) C dL_law_780 (by decide) [1, 2, 3, 4, 5, 0] rfl ?_
  refine j_aload_n (pc := 782) C dL_law_782 2 rfl ?_
  refine j_aload_n (pc := 783) C dL_law_783 0 rfl ?_
  refine j_iload (pc := 784) C dL_law_784 4 rfl ?_
  refine j_iconst (pc := 786) C dL_law_786 ?_
  refine j_iadd (pc := 787) C dL_law_787 ?_
  refine j_sld (pc := 788) C hX hbl hbA hn (by omega) (by omega) ea dL_law_788 ?_
  refine J.swap ?_
  refine j_callFI (pc := 789) C (As := [.int (zI a)]) (rest := []) (kX1_doubtOf l D k c1 c2 c3 th L K' Dm' S lo' hi' su' db' dy li so sp X ke se a (by omega) (by omega) (by omega)) [0, 1, 2] rfl (cwV 1 C.2.2.2.2.1 gL_law_X1_doubtOf rfl rfl rfl (by decide +kernel) ⟨Nat.le_of_ble_eq_true rfl, Nat.le_of_ble_eq_true rfl⟩) 0 (ci := 1) rfl rfl rfl dL_law_789 rfl rfl (Nat.le_of_ble_eq_true rfl) ⟨by omega, by omega⟩ ?_
  refine j_istore (pc := 792) C dL_law_792 (by decide) [1, 2, 3, 4, 5, 6, 0] rfl ?_
  refine j_aload_n (pc := 794) C dL_law_794 2 rfl ?_
  refine j_callFI (pc := 795) C (As := []) (rest := []) (kX1_thrown l D k c1 c2 c3 _ _ _ _ _ _ _ _ _ _ _ _ _ _ _ _) [0, 1, 2] rfl (cwV 0 C.2.2.2.2.1 gL_law_X1_thrown rfl rfl rfl (by decide +kernel) ⟨Nat.le_of_ble_eq_true rfl, Nat.le_of_ble_eq_true rfl⟩) 0 (ci := 1) rfl rfl rfl dL_law_795 rfl rfl (Nat.le_of_ble_eq_true rfl) ⟨by omega, by omega⟩ ?_
  refine j_iload (pc := 798) C dL_law_798 5 rfl ?_
  refine j_icmp_eq (pc := 800) C 805 (a := 0) (b := 0) dL_law_800 (by decide) ⟨by decide, by decide⟩ ⟨by decide, by decide⟩ (fun _ => ?_) (fun q => absurd rfl q)
  refine j_iload (pc := 805) C dL_law_805 5 rfl ?_
  refine j_if_ne (pc := 807) C 822 dL_law_807 (by decide) ⟨by decide, by decide⟩ (fun q => absurd rfl q) (fun _ => ?_)
  refine j_aload_n (pc := 810) C dL_law_810 3 rfl ?_
  refine j_iconst (pc := 811) C dL_law_811 ?_
  refine j_lald (pc := 812) C 33 2 rfl rfl (by decide) (by decide) dL_law_812 ?_
  refine j_iload (pc := 813) C dL_law_813 6 rfl ?_
  refine j_i2l (pc := 815) C dL_law_815 ?_
  refine j_lcmpE (pc := 816) C (lw_eq (e4 a (by omega) (by omega))) dL_law_816 ?_
  refine j_if_eq (pc := 817) C 822 dL_law_817 (by decide) ⟨by decide, by decide⟩ (fun _ => ?_) (fun q => absurd rfl q)
  refine j_goto (pc := 822) C 1713 dL_law_822 (by decide) ?_
  refine J.swap ?_
  refine J.pick [0, 1, 2, 3, 4] rfl ?_
  refine J.widen (k := cells + 1) (n := slots + 9) (by omega) (by omega) (kont _ ?_)
  exact ⟨_, _, _, _, _, _, _, _, _, _, _, _, _, _, _, _, _, _, _, _, _, _, _, _, _, _, rfl, r.up⟩
set_option maxHeartbeats 4000000 in
set_option maxRecDepth 100000 in
theorem lw_kindOf {p : Program} {l : Launch} {e : Env} {s : State} {m : MethodId} {args : Array Value} {below : List Frame} {meth : Method} {c : Code} {D : va_G} {A : Nat → Prop} {cells slots : Nat} {Q : State → Prop} {c1 c2 c3 : ClassId} {h k : Nat → Nat} {o9 sb n : Nat} {xs : Nat → Int32} (C : GC p s m args meth c cL_law 9 RL wsL_law D (tyS c1 c2 c3) A) (htr : l.stackTraces = false) (hx : xF A s s.heap) (hX : va_X sb n xs s s.heap) (hbl : sb < s.heap.size) (hbA : ¬ A sb) {i : Int} (i0 : 0 ≤ i) (i1 : i + 2 < n) (hn : n ≤ 1536) (hcl : cells + 1 ≤ room_1.cells) (hsl : slots + 9 ≤ room_1.slots) {t : Int} (t0 : 0 ≤ t) (t1 : t < 512) {K Dm : Int → Int} {L : Int} {lo hi su db : Int → Int} {S dy li so sp : Int} {tu ah : Int → Int} {M : Int → Int → Int} {f9 : Nat → Int64} {th : Int} {K' Dm' lo' hi' su' db' : Int → Int} {X : Int → Int → Int} {ke se : Int → Int} (r : Rel t K Dm L lo hi su db S li K' Dm' lo' hi' su' db') (kont : ∀ w, LI (t + 1) c1 c2 c3 h k o9 w → J p l e room_1 s m args below meth c 9 D A (cells + 1) (slots + 9) Q w [(0, .ref sb), (1, .ref (h 0)), (2, .ref (k 0)), (3, .ref o9), (4, .int (zI i))] 1713 []) : J p l e room_1 s m args below meth c 9 D A cells slots Q ((wG h c1 c2 K Dm L lo hi su db S dy li so sp tu ah M ++ [(o9, .inl (c3, 1, .inr (.inl f9)))]) ++ wN k c1 th L K' Dm' S lo' hi' su' db' dy li so sp X ke se) [(0, .ref sb), (1, .ref (h 0)), (2, .ref (k 0)), (3, .ref o9), (4, .int (zI i))] 890 [] := by
  obtain ⟨⟨⟨hL0, hL⟩, ⟨hS0, hS⟩, hf, hs⟩, hd, hk, ⟨l0, l1⟩, eK, eD, e1, e2, e3, e4⟩ := id r
  obtain ⟨a, ea⟩ : ∃ a, (xs (i + 1).toNat).toInt = a := ⟨_, rfl⟩
  obtain ⟨b, eb⟩ : ∃ b, (xs (i + 2).toNat).toInt = b := ⟨_, rfl⟩
  have ha : zR a := by rw [← ea]; exact zR_of _
  have hb : zR b := by rw [← eb]; exact zR_of _
  obtain ⟨ha1, ha2⟩ := id ha
  obtain ⟨hb1, hb2⟩ := id hb
  by_cases hq0 : 0 ≤ a ∧ a < L
  case neg =>
    refine j_aload_n (pc := 890) C dL_law_890 1 rfl ?_
    refine j_aload_n (pc := 891) C dL_law_891 0 rfl ?_
    refine j_iload (pc := 892) C dL_law_892 4 rfl ?_
    refine j_iconst (pc := 894) C dL_law_894 ?_
    refine j_iadd (pc := 895) C dL_law_895 ?_
    refine j_sld (pc := 896) C hX hbl hbA hn (by omega) (by omega) ea dL_law_896 ?_
    refine j_aload_n (pc := 897) C dL_law_897 3 rfl ?_
    refine j_callSIX (pc := 898) C htr hx (As := [.ref (h 0), .int (zI a), .ref o9]) (rest := []) rfl (kL_kindOf_x1 l D h c1 c2 c3 K Dm L lo hi su db S dy li so sp tu ah M o9 f9 a (by omega) (by omega) ha (by omega)) (vx_cwSW 3 C.2.2.2.2.1 gL_law_L_kindOf rfl rfl rfl (by decide +kernel) ⟨Nat.le_of_ble_eq_true rfl, Nat.le_of_ble_eq_true rfl⟩) dL_law_898 rfl rfl (Nat.le_of_ble_eq_true rfl) ⟨by omega, by omega⟩ ?_
    refine j_istore (pc := 901) C dL_law_901 (by decide) [1, 2, 3, 4, 5, 0] rfl ?_
    refine j_aload_n (pc := 903) C dL_law_903 2 rfl ?_
    refine j_aload_n (pc := 904) C dL_law_904 0 rfl ?_
    refine j_iload (pc := 905) C dL_law_905 4 rfl ?_
    refine j_iconst (pc := 907) C dL_law_907 ?_
    refine j_iadd (pc := 908) C dL_law_908 ?_
    refine j_sld (pc := 909) C hX hbl hbA hn (by omega) (by omega) ea dL_law_909 ?_
    refine J.swap ?_
    refine j_callFI (pc := 910) C (As := [.int (zI a)]) (rest := []) (kX1_kindOf_no1 l D k c1 c2 c3 th L K' Dm' S lo' hi' su' db' dy li so sp X ke se a (by omega) (by omega) ha (by omega)) [0, 1, 2] rfl (cwV 1 C.2.2.2.2.1 gL_law_X1_kindOf rfl rfl rfl (by decide +kernel) ⟨Nat.le_of_ble_eq_true rfl, Nat.le_of_ble_eq_true rfl⟩) 0 (ci := 1) rfl rfl rfl dL_law_910 rfl rfl (Nat.le_of_ble_eq_true rfl) ⟨by omega, by omega⟩ ?_
    refine j_istore (pc := 913) C dL_law_913 (by decide) [1, 2, 3, 4, 5, 6, 0] rfl ?_
    refine j_aload_n (pc := 915) C dL_law_915 2 rfl ?_
    refine j_callFI (pc := 916) C (As := []) (rest := []) (kX1_thrown l D k c1 c2 c3 _ _ _ _ _ _ _ _ _ _ _ _ _ _ _ _) [0, 1, 2] rfl (cwV 0 C.2.2.2.2.1 gL_law_X1_thrown rfl rfl rfl (by decide +kernel) ⟨Nat.le_of_ble_eq_true rfl, Nat.le_of_ble_eq_true rfl⟩) 0 (ci := 1) rfl rfl rfl dL_law_916 rfl rfl (Nat.le_of_ble_eq_true rfl) ⟨by omega, by omega⟩ ?_
    refine j_iload (pc := 919) C dL_law_919 5 rfl ?_
    refine j_icmp_eq (pc := 921) C 926 (a := 1) (b := 1) dL_law_921 (by decide) ⟨by decide, by decide⟩ ⟨by decide, by decide⟩ (fun _ => ?_) (fun q => absurd rfl q)
    refine j_iload (pc := 926) C dL_law_926 5 rfl ?_
    refine j_if_ne (pc := 928) C 943 dL_law_928 (by decide) ⟨by decide, by decide⟩ (fun _ => ?_) (fun q => absurd q (by decide))
    refine j_goto (pc := 943) C 1713 dL_law_943 (by decide) ?_
    refine J.swap ?_
    refine J.pick [0, 1, 2, 3, 4] rfl ?_
    refine J.widen (k := cells + 1) (n := slots + 9) (by omega) (by omega) (kont _ ?_)
    exact ⟨_, _, _, _, _, _, _, _, _, _, _, _, _, _, _, _, _, _, _, _, _, _, _, _, _, _, rfl, r.up⟩
  refine j_aload_n (pc := 890) C dL_law_890 1 rfl ?_
  refine j_aload_n (pc := 891) C dL_law_891 0 rfl ?_
  refine j_iload (pc := 892) C dL_law_892 4 rfl ?_
  refine j_iconst (pc := 894) C dL_law_894 ?_
  refine j_iadd (pc := 895) C dL_law_895 ?_
  refine j_sld (pc := 896) C hX hbl hbA hn (by omega) (by omega) ea dL_law_896 ?_
  refine j_aload_n (pc := 897) C dL_law_897 3 rfl ?_
  refine j_callSIX (pc := 898) C htr hx (As := [.ref (h 0), .int (zI a), .ref o9]) (rest := []) rfl (kL_kindOf l D h c1 c2 c3 K Dm L lo hi su db S dy li so sp tu ah M o9 f9 a (by omega) (by omega) (by omega)) (vx_cwSW 3 C.2.2.2.2.1 gL_law_L_kindOf rfl rfl rfl (by decide +kernel) ⟨Nat.le_of_ble_eq_true rfl, Nat.le_of_ble_eq_true rfl⟩) dL_law_898 rfl rfl (Nat.le_of_ble_eq_true rfl) ⟨by omega, by omega⟩ ?_
  refine j_istore (pc := 901) C dL_law_901 (by decide) [1, 2, 3, 4, 5, 0] rfl ?_
  refine j_aload_n (pc := 903) C dL_law_903 2 rfl ?_
  refine j_aload_n (pc := 904) C dL_law_904 0 rfl ?_
  refine j_iload (pc := 905) C dL_law_905 4 rfl ?_
  refine j_iconst (pc := 907) C dL_law_907 ?_
  refine j_iadd (pc := 908) C dL_law_908 ?_
  refine j_sld (pc := 909) C hX hbl hbA hn (by omega) (by omega) ea dL_law_909 ?_
  refine J.swap ?_
  refine j_callFI (pc := 910) C (As := [.int (zI a)]) (rest := []) (kX1_kindOf l D k c1 c2 c3 th L K' Dm' S lo' hi' su' db' dy li so sp X ke se a (by omega) (by omega) (by omega)) [0, 1, 2] rfl (cwV 1 C.2.2.2.2.1 gL_law_X1_kindOf rfl rfl rfl (by decide +kernel) ⟨Nat.le_of_ble_eq_true rfl, Nat.le_of_ble_eq_true rfl⟩) 0 (ci := 1) rfl rfl rfl dL_law_910 rfl rfl (Nat.le_of_ble_eq_true rfl) ⟨by omega, by omega⟩ ?_
  refine j_istore (pc := 913) C dL_law_913 (by decide) [1, 2, 3, 4, 5, 6, 0] rfl ?_
  refine j_aload_n (pc := 915) C dL_law_915 2 rfl ?_
  refine j_callFI (pc := 916) C (As := []) (rest := []) (kX1_thrown l D k c1 c2 c3 _ _ _ _ _ _ _ _ _ _ _ _ _ _ _ _) [0, 1, 2] rfl (cwV 0 C.2.2.2.2.1 gL_law_X1_thrown rfl rfl rfl (by decide +kernel) ⟨Nat.le_of_ble_eq_true rfl, Nat.le_of_ble_eq_true rfl⟩) 0 (ci := 1) rfl rfl rfl dL_law_916 rfl rfl (Nat.le_of_ble_eq_true rfl) ⟨by omega, by omega⟩ ?_
  refine j_iload (pc := 919) C dL_law_919 5 rfl ?_
  refine j_icmp_eq (pc := 921) C 926 (a := 0) (b := 0) dL_law_921 (by decide) ⟨by decide, by decide⟩ ⟨by decide, by decide⟩ (fun _ => ?_) (fun q => absurd rfl q)
  refine j_iload (pc := 926) C dL_law_926 5 rfl ?_
  refine j_if_ne (pc := 928) C 943 dL_law_928 (by decide) ⟨by decide, by decide⟩ (fun q => absurd rfl q) (fun _ => ?_)
  refine j_aload_n (pc := 931) C dL_law_931 3 rfl ?_
  refine j_iconst (pc := 932) C dL_law_932 ?_
  refine j_lald (pc := 933) C 33 2 rfl rfl (by decide) (by decide) dL_law_933 ?_
  refine j_iload (pc := 934) C dL_law_934 6 rfl ?_
  refine j_i2l (pc := 936) C dL_law_936 ?_
  refine j_lcmpE (pc := 937) C (lw_eq (eK a (by omega) (by omega))) dL_law_937 ?_
  refine j_if_eq (pc := 938) C 943 dL_law_938 (by decide) ⟨by decide, by decide⟩ (fun _ => ?_) (fun q => absurd rfl q)
  refine j_goto (pc := 943) C 1713 dL_law_943 (by decide) ?_
  refine J.swap ?_
  refine J.pick [0, 1, 2, 3, 4] rfl ?_
  refine J.widen (k := cells + 1) (n := slots + 9) (by omega) (by omega) (kont _ ?_)
  exact ⟨_, _, _, _, _, _, _, _, _, _, _, _, _, _, _, _, _, _, _, _, _, _, _, _, _, _, rfl, r.up⟩
set_option maxHeartbeats 4000000 in
set_option maxRecDepth 100000 in
theorem lw_dampnessOf {p : Program} {l : Launch} {e : Env} {s : State} {m : MethodId} {args : Array Value} {below : List Frame} {meth : Method} {c : Code} {D : va_G} {A : Nat → Prop} {cells slots : Nat} {Q : State → Prop} {c1 c2 c3 : ClassId} {h k : Nat → Nat} {o9 sb n : Nat} {xs : Nat → Int32} (C : GC p s m args meth c cL_law 9 RL wsL_law D (tyS c1 c2 c3) A) (htr : l.stackTraces = false) (hx : xF A s s.heap) (hX : va_X sb n xs s s.heap) (hbl : sb < s.heap.size) (hbA : ¬ A sb) {i : Int} (i0 : 0 ≤ i) (i1 : i + 2 < n) (hn : n ≤ 1536) (hcl : cells + 1 ≤ room_1.cells) (hsl : slots + 9 ≤ room_1.slots) {t : Int} (t0 : 0 ≤ t) (t1 : t < 512) {K Dm : Int → Int} {L : Int} {lo hi su db : Int → Int} {S dy li so sp : Int} {tu ah : Int → Int} {M : Int → Int → Int} {f9 : Nat → Int64} {th : Int} {K' Dm' lo' hi' su' db' : Int → Int} {X : Int → Int → Int} {ke se : Int → Int} (r : Rel t K Dm L lo hi su db S li K' Dm' lo' hi' su' db') (kont : ∀ w, LI (t + 1) c1 c2 c3 h k o9 w → J p l e room_1 s m args below meth c 9 D A (cells + 1) (slots + 9) Q w [(0, .ref sb), (1, .ref (h 0)), (2, .ref (k 0)), (3, .ref o9), (4, .int (zI i))] 1713 []) : J p l e room_1 s m args below meth c 9 D A cells slots Q ((wG h c1 c2 K Dm L lo hi su db S dy li so sp tu ah M ++ [(o9, .inl (c3, 1, .inr (.inl f9)))]) ++ wN k c1 th L K' Dm' S lo' hi' su' db' dy li so sp X ke se) [(0, .ref sb), (1, .ref (h 0)), (2, .ref (k 0)), (3, .ref o9), (4, .int (zI i))] 946 [] := by
  obtain ⟨⟨⟨hL0, hL⟩, ⟨hS0, hS⟩, hf, hs⟩, hd, hk, ⟨l0, l1⟩, eK, eD, e1, e2, e3, e4⟩ := id r
  obtain ⟨a, ea⟩ : ∃ a, (xs (i + 1).toNat).toInt = a := ⟨_, rfl⟩
  obtain ⟨b, eb⟩ : ∃ b, (xs (i + 2).toNat).toInt = b := ⟨_, rfl⟩
  have ha : zR a := by rw [← ea]; exact zR_of _
  have hb : zR b := by rw [← eb]; exact zR_of _
  obtain ⟨ha1, ha2⟩ := id ha
  obtain ⟨hb1, hb2⟩ := id hb
  by_cases hq0 : 0 ≤ a ∧ a < L
  case neg =>
    refine j_aload_n (pc := 946) C dL_law_946 1 rfl ?_
    refine j_aload_n (pc := 947) C dL_law_947 0 rfl ?_
    refine j_iload (pc := 948) C dL_law_948 4 rfl ?_
    refine j_iconst (pc := 950) C dL_law_950 ?_
    refine j_iadd (pc := 951) C dL_law_951 ?_
    refine j_sld (pc := 952) C hX hbl hbA hn (by omega) (by omega) ea dL_law_952 ?_
    refine j_aload_n (pc := 953) C dL_law_953 3 rfl ?_
    refine j_callSIX (pc := 954) C htr hx (As := [.ref (h 0), .int (zI a), .ref o9]) (rest := []) rfl (kL_dampnessOf_x1 l D h c1 c2 c3 K Dm L lo hi su db S dy li so sp tu ah M o9 f9 a (by omega) (by omega) ha (by omega)) (vx_cwSW 3 C.2.2.2.2.1 gL_law_L_dampnessOf rfl rfl rfl (by decide +kernel) ⟨Nat.le_of_ble_eq_true rfl, Nat.le_of_ble_eq_true rfl⟩) dL_law_954 rfl rfl (Nat.le_of_ble_eq_true rfl) ⟨by omega, by omega⟩ ?_
    refine j_istore (pc := 957) C dL_law_957 (by decide) [1, 2, 3, 4, 5, 0] rfl ?_
    refine j_aload_n (pc := 959) C dL_law_959 2 rfl ?_
    refine j_aload_n (pc := 960) C dL_law_960 0 rfl ?_
    refine j_iload (pc := 961) C dL_law_961 4 rfl ?_
    refine j_iconst (pc := 963) C dL_law_963 ?_
    refine j_iadd (pc := 964) C dL_law_964 ?_
    refine j_sld (pc := 965) C hX hbl hbA hn (by omega) (by omega) ea dL_law_965 ?_
    refine J.swap ?_
    refine j_callFI (pc := 966) C (As := [.int (zI a)]) (rest := []) (kX1_dampnessOf_no1 l D k c1 c2 c3 th L K' Dm' S lo' hi' su' db' dy li so sp X ke se a (by omega) (by omega) ha (by omega)) [0, 1, 2] rfl (cwV 1 C.2.2.2.2.1 gL_law_X1_dampnessOf rfl rfl rfl (by decide +kernel) ⟨Nat.le_of_ble_eq_true rfl, Nat.le_of_ble_eq_true rfl⟩) 0 (ci := 1) rfl rfl rfl dL_law_966 rfl rfl (Nat.le_of_ble_eq_true rfl) ⟨by omega, by omega⟩ ?_
    refine j_istore (pc := 969) C dL_law_969 (by decide) [1, 2, 3, 4, 5, 6, 0] rfl ?_
    refine j_aload_n (pc := 971) C dL_law_971 2 rfl ?_
    refine j_callFI (pc := 972) C (As := []) (rest := []) (kX1_thrown l D k c1 c2 c3 _ _ _ _ _ _ _ _ _ _ _ _ _ _ _ _) [0, 1, 2] rfl (cwV 0 C.2.2.2.2.1 gL_law_X1_thrown rfl rfl rfl (by decide +kernel) ⟨Nat.le_of_ble_eq_true rfl, Nat.le_of_ble_eq_true rfl⟩) 0 (ci := 1) rfl rfl rfl dL_law_972 rfl rfl (Nat.le_of_ble_eq_true rfl) ⟨by omega, by omega⟩ ?_
    refine j_iload (pc := 975) C dL_law_975 5 rfl ?_
    refine j_icmp_eq (pc := 977) C 982 (a := 1) (b := 1) dL_law_977 (by decide) ⟨by decide, by decide⟩ ⟨by decide, by decide⟩ (fun _ => ?_) (fun q => absurd rfl q)
    refine j_iload (pc := 982) C dL_law_982 5 rfl ?_
    refine j_if_ne (pc := 984) C 999 dL_law_984 (by decide) ⟨by decide, by decide⟩ (fun _ => ?_) (fun q => absurd q (by decide))
    refine j_goto (pc := 999) C 1713 dL_law_999 (by decide) ?_
    refine J.swap ?_
    refine J.pick [0, 1, 2, 3, 4] rfl ?_
    refine J.widen (k := cells + 1) (n := slots + 9) (by omega) (by omega) (kont _ ?_)
    exact ⟨_, _, _, _, _, _, _, _, _, _, _, _, _, _, _, _, _, _, _, _, _, _, _, _, _, _, rfl, r.up⟩
  refine j_aload_n (pc := 946) C dL_law_946 1 rfl ?_
  refine j_aload_n (pc := 947) C dL_law_947 0 rfl ?_
  refine j_iload (pc := 948) C dL_law_948 4 rfl ?_
  refine j_iconst (pc := 950) C dL_law_950 ?_
  refine j_iadd (pc := 951) C dL_law_951 ?_
  refine j_sld (pc := 952) C hX hbl hbA hn (by omega) (by omega) ea dL_law_952 ?_
  refine j_aload_n (pc := 953) C dL_law_953 3 rfl ?_
  refine j_callSIX (pc := 954) C htr hx (As := [.ref (h 0), .int (zI a), .ref o9]) (rest := []) rfl (kL_dampnessOf l D h c1 c2 c3 K Dm L lo hi su db S dy li so sp tu ah M o9 f9 a (by omega) (by omega) (by omega)) (vx_cwSW 3 C.2.2.2.2.1 gL_law_L_dampnessOf rfl rfl rfl (by decide +kernel) ⟨Nat.le_of_ble_eq_true rfl, Nat.le_of_ble_eq_true rfl⟩) dL_law_954 rfl rfl (Nat.le_of_ble_eq_true rfl) ⟨by omega, by omega⟩ ?_
  refine j_istore (pc := 957) C dL_law_957 (by decide) [1, 2, 3, 4, 5, 0] rfl ?_
  refine j_aload_n (pc := 959) C dL_law_959 2 rfl ?_
  refine j_aload_n (pc := 960) C dL_law_960 0 rfl ?_
  refine j_iload (pc := 961) C dL_law_961 4 rfl ?_
  refine j_iconst (pc := 963) C dL_law_963 ?_
  refine j_iadd (pc := 964) C dL_law_964 ?_
  refine j_sld (pc := 965) C hX hbl hbA hn (by omega) (by omega) ea dL_law_965 ?_
  refine J.swap ?_
  refine j_callFI (pc := 966) C (As := [.int (zI a)]) (rest := []) (kX1_dampnessOf l D k c1 c2 c3 th L K' Dm' S lo' hi' su' db' dy li so sp X ke se a (by omega) (by omega) (by omega)) [0, 1, 2] rfl (cwV 1 C.2.2.2.2.1 gL_law_X1_dampnessOf rfl rfl rfl (by decide +kernel) ⟨Nat.le_of_ble_eq_true rfl, Nat.le_of_ble_eq_true rfl⟩) 0 (ci := 1) rfl rfl rfl dL_law_966 rfl rfl (Nat.le_of_ble_eq_true rfl) ⟨by omega, by omega⟩ ?_
  refine j_istore (pc := 969) C dL_law_969 (by decide) [1, 2, 3, 4, 5, 6, 0] rfl ?_
  refine j_aload_n (pc := 971) C dL_law_971 2 rfl ?_
  refine j_callFI (pc := 972) C (As := []) (rest := []) (kX1_thrown l D k c1 c2 c3 _ _ _ _ _ _ _ _ _ _ _ _ _ _ _ _) [0, 1, 2] rfl (cwV 0 C.2.2.2.2.1 gL_law_X1_thrown rfl rfl rfl (by decide +kernel) ⟨Nat.le_of_ble_eq_true rfl, Nat.le_of_ble_eq_true rfl⟩) 0 (ci := 1) rfl rfl rfl dL_law_972 rfl rfl (Nat.le_of_ble_eq_true rfl) ⟨by omega, by omega⟩ ?_
  refine j_iload (pc := 975) C dL_law_975 5 rfl ?_
  refine j_icmp_eq (pc := 977) C 982 (a := 0) (b := 0) dL_law_977 (by decide) ⟨by decide, by decide⟩ ⟨by decide, by decide⟩ (fun _ => ?_) (fun q => absurd rfl q)
  refine j_iload (pc := 982) C dL_law_982 5 rfl ?_
  refine j_if_ne (pc := 984) C 999 dL_law_984 (by decide) ⟨by decide, by decide⟩ (fun q => absurd rfl q) (fun _ => ?_)
  refine j_aload_n (pc := 987) C dL_law_987 3 rfl ?_
  refine j_iconst (pc := 988) C dL_law_988 ?_
  refine j_lald (pc := 989) C 33 2 rfl rfl (by decide) (by decide) dL_law_989 ?_
  refine j_iload (pc := 990) C dL_law_990 6 rfl ?_
  refine j_i2l (pc := 992) C dL_law_992 ?_
  refine j_lcmpE (pc := 993) C (lw_eq (eD a (by omega) (by omega))) dL_law_993 ?_
  refine j_if_eq (pc := 994) C 999 dL_law_994 (by decide) ⟨by decide, by decide⟩ (fun _ => ?_) (fun q => absurd rfl q)
  refine j_goto (pc := 999) C 1713 dL_law_999 (by decide) ?_
  refine J.swap ?_
  refine J.pick [0, 1, 2, 3, 4] rfl ?_
  refine J.widen (k := cells + 1) (n := slots + 9) (by omega) (by omega) (kont _ ?_)
  exact ⟨_, _, _, _, _, _, _, _, _, _, _, _, _, _, _, _, _, _, _, _, _, _, _, _, _, _, rfl, r.up⟩
set_option maxHeartbeats 4000000 in
set_option maxRecDepth 100000 in
theorem lw_layersAheadOf {p : Program} {l : Launch} {e : Env} {s : State} {m : MethodId} {args : Array Value} {below : List Frame} {meth : Method} {c : Code} {D : va_G} {A : Nat → Prop} {cells slots : Nat} {Q : State → Prop} {c1 c2 c3 : ClassId} {h k : Nat → Nat} {o9 sb n : Nat} {xs : Nat → Int32} (C : GC p s m args meth c cL_law 9 RL wsL_law D (tyS c1 c2 c3) A) (htr : l.stackTraces = false) (hx : xF A s s.heap) (hX : va_X sb n xs s s.heap) (hbl : sb < s.heap.size) (hbA : ¬ A sb) {i : Int} (i0 : 0 ≤ i) (i1 : i + 2 < n) (hn : n ≤ 1536) (hcl : cells + 1 ≤ room_1.cells) (hsl : slots + 9 ≤ room_1.slots) {t : Int} (t0 : 0 ≤ t) (t1 : t < 512) {K Dm : Int → Int} {L : Int} {lo hi su db : Int → Int} {S dy li so sp : Int} {tu ah : Int → Int} {M : Int → Int → Int} {f9 : Nat → Int64} {th : Int} {K' Dm' lo' hi' su' db' : Int → Int} {X : Int → Int → Int} {ke se : Int → Int} (r : Rel t K Dm L lo hi su db S li K' Dm' lo' hi' su' db') (kont : ∀ w, LI (t + 1) c1 c2 c3 h k o9 w → J p l e room_1 s m args below meth c 9 D A (cells + 1) (slots + 9) Q w [(0, .ref sb), (1, .ref (h 0)), (2, .ref (k 0)), (3, .ref o9), (4, .int (zI i))] 1713 []) : J p l e room_1 s m args below meth c 9 D A cells slots Q ((wG h c1 c2 K Dm L lo hi su db S dy li so sp tu ah M ++ [(o9, .inl (c3, 1, .inr (.inl f9)))]) ++ wN k c1 th L K' Dm' S lo' hi' su' db' dy li so sp X ke se) [(0, .ref sb), (1, .ref (h 0)), (2, .ref (k 0)), (3, .ref o9), (4, .int (zI i))] 1015 [] := by
  obtain ⟨⟨⟨hL0, hL⟩, ⟨hS0, hS⟩, hf, hs⟩, hd, hk, ⟨l0, l1⟩, eK, eD, e1, e2, e3, e4⟩ := id r
  obtain ⟨a, ea⟩ : ∃ a, (xs (i + 1).toNat).toInt = a := ⟨_, rfl⟩
  obtain ⟨b, eb⟩ : ∃ b, (xs (i + 2).toNat).toInt = b := ⟨_, rfl⟩
  have ha : zR a := by rw [← ea]; exact zR_of _
  have hb : zR b := by rw [← eb]; exact zR_of _
  obtain ⟨ha1, ha2⟩ := id ha
  obtain ⟨hb1, hb2⟩ := id hb
  by_cases hq0 : 0 ≤ a ∧ a ≤ 4
  case neg =>
    refine j_aload_n (pc := 1015) C dL_law_1015 1 rfl ?_
    refine j_aload_n (pc := 1016) C dL_law_1016 0 rfl ?_
    refine j_iload (pc := 1017) C dL_law_1017 4 rfl ?_
    refine j_iconst (pc := 1019) C dL_law_1019 ?_
    refine j_iadd (pc := 1020) C dL_law_1020 ?_
    refine j_sld (pc := 1021) C hX hbl hbA hn (by omega) (by omega) ea dL_law_1021 ?_
    refine j_aload_n (pc := 1022) C dL_law_1022 3 rfl ?_
    refine j_callSIX (pc := 1023) C htr hx (As := [.ref (h 0), .int (zI a), .ref o9]) (rest := []) rfl (kL_layersAheadOf_x1 l D h c1 c2 c3 K Dm L lo hi su db S dy li so sp tu ah M o9 f9 a ha (by omega)) (vx_cwSW 3 C.2.2.2.2.1 gL_law_L_layersAheadOf rfl rfl rfl (by decide +kernel) ⟨Nat.le_of_ble_eq_true rfl, Nat.le_of_ble_eq_true rfl⟩) dL_law_1023 rfl rfl (Nat.le_of_ble_eq_true rfl) ⟨by omega, by omega⟩ ?_
    refine j_istore (pc := 1026) C dL_law_1026 (by decide) [1, 2, 3, 4, 5, 0] rfl ?_
    refine j_aload_n (pc := 1028) C dL_law_1028 2 rfl ?_
    refine j_aload_n (pc := 1029) C dL_law_1029 0 rfl ?_
    refine j_iload (pc := 1030) C dL_law_1030 4 rfl ?_
    refine j_iconst (pc := 1032) C dL_law_1032 ?_
    refine j_iadd (pc := 1033) C dL_law_1033 ?_
    refine j_sld (pc := 1034) C hX hbl hbA hn (by omega) (by omega) ea dL_law_1034 ?_
    refine J.swap ?_
    refine j_callFI (pc := 1035) C (As := [.int (zI a)]) (rest := []) (kX1_layersAheadOf_no1 l D k c1 c2 c3 th L K' Dm' S lo' hi' su' db' dy li so sp X ke se a ha (by omega)) [0, 1, 2] rfl (cwV 1 C.2.2.2.2.1 gL_law_X1_layersAheadOf rfl rfl rfl (by decide +kernel) ⟨Nat.le_of_ble_eq_true rfl, Nat.le_of_ble_eq_true rfl⟩) 0 (ci := 1) rfl rfl rfl dL_law_1035 rfl rfl (Nat.le_of_ble_eq_true rfl) ⟨by omega, by omega⟩ ?_
    refine j_istore (pc := 1038) C dL_law_1038 (by decide) [1, 2, 3, 4, 5, 6, 0] rfl ?_
    refine j_aload_n (pc := 1040) C dL_law_1040 2 rfl ?_
    refine j_callFI (pc := 1041) C (As := []) (rest := []) (kX1_thrown l D k c1 c2 c3 _ _ _ _ _ _ _ _ _ _ _ _ _ _ _ _) [0, 1, 2] rfl (cwV 0 C.2.2.2.2.1 gL_law_X1_thrown rfl rfl rfl (by decide +kernel) ⟨Nat.le_of_ble_eq_true rfl, Nat.le_of_ble_eq_true rfl⟩) 0 (ci := 1) rfl rfl rfl dL_law_1041 rfl rfl (Nat.le_of_ble_eq_true rfl) ⟨by omega, by omega⟩ ?_
    refine j_iload (pc := 1044) C dL_law_1044 5 rfl ?_
    refine j_icmp_eq (pc := 1046) C 1051 (a := 1) (b := 1) dL_law_1046 (by decide) ⟨by decide, by decide⟩ ⟨by decide, by decide⟩ (fun _ => ?_) (fun q => absurd rfl q)
    refine j_iload (pc := 1051) C dL_law_1051 5 rfl ?_
    refine j_if_ne (pc := 1053) C 1068 dL_law_1053 (by decide) ⟨by decide, by decide⟩ (fun _ => ?_) (fun q => absurd q (by decide))
    refine j_goto (pc := 1068) C 1713 dL_law_1068 (by decide) ?_
    refine J.swap ?_
    refine J.pick [0, 1, 2, 3, 4] rfl ?_
    refine J.widen (k := cells + 1) (n := slots + 9) (by omega) (by omega) (kont _ ?_)
    exact ⟨_, _, _, _, _, _, _, _, _, _, _, _, _, _, _, _, _, _, _, _, _, _, _, _, _, _, rfl, r.up⟩
  refine j_aload_n (pc := 1015) C dL_law_1015 1 rfl ?_
  refine j_aload_n (pc := 1016) C dL_law_1016 0 rfl ?_
  refine j_iload (pc := 1017) C dL_law_1017 4 rfl ?_
  refine j_iconst (pc := 1019) C dL_law_1019 ?_
  refine j_iadd (pc := 1020) C dL_law_1020 ?_
  refine j_sld (pc := 1021) C hX hbl hbA hn (by omega) (by omega) ea dL_law_1021 ?_
  refine j_aload_n (pc := 1022) C dL_law_1022 3 rfl ?_
  refine j_callSIX (pc := 1023) C htr hx (As := [.ref (h 0), .int (zI a), .ref o9]) (rest := []) rfl (kL_layersAheadOf l D h c1 c2 c3 K Dm L lo hi su db S dy li so sp tu ah M o9 f9 a (by omega) (by omega) (by omega) (by omega) r.2.2.1) (vx_cwSW 3 C.2.2.2.2.1 gL_law_L_layersAheadOf rfl rfl rfl (by decide +kernel) ⟨Nat.le_of_ble_eq_true rfl, Nat.le_of_ble_eq_true rfl⟩) dL_law_1023 rfl rfl (Nat.le_of_ble_eq_true rfl) ⟨by omega, by omega⟩ ?_
  refine j_istore (pc := 1026) C dL_law_1026 (by decide) [1, 2, 3, 4, 5, 0] rfl ?_
  refine j_aload_n (pc := 1028) C dL_law_1028 2 rfl ?_
  refine j_aload_n (pc := 1029) C dL_law_1029 0 rfl ?_
  refine j_iload (pc := 1030) C dL_law_1030 4 rfl ?_
  refine j_iconst (pc := 1032) C dL_law_1032 ?_
  refine j_iadd (pc := 1033) C dL_law_1033 ?_
  refine j_sld (pc := 1034) C hX hbl hbA hn (by omega) (by omega) ea dL_law_1034 ?_
  refine J.swap ?_
  refine j_callFI (pc := 1035) C (As := [.int (zI a)]) (rest := []) (kX1_layersAheadOf l D k c1 c2 c3 th L K' Dm' S lo' hi' su' db' dy li so sp X ke se a (by omega) (by omega) (by omega) (by omega) r.km) [0, 1, 2] rfl (cwV 1 C.2.2.2.2.1 gL_law_X1_layersAheadOf rfl rfl rfl (by decide +kernel) ⟨Nat.le_of_ble_eq_true rfl, Nat.le_of_ble_eq_true rfl⟩) 0 (ci := 1) rfl rfl rfl dL_law_1035 rfl rfl (Nat.le_of_ble_eq_true rfl) ⟨by omega, by omega⟩ ?_
  refine j_istore (pc := 1038) C dL_law_1038 (by decide) [1, 2, 3, 4, 5, 6, 0] rfl ?_
  refine j_aload_n (pc := 1040) C dL_law_1040 2 rfl ?_
  refine j_callFI (pc := 1041) C (As := []) (rest := []) (kX1_thrown l D k c1 c2 c3 _ _ _ _ _ _ _ _ _ _ _ _ _ _ _ _) [0, 1, 2] rfl (cwV 0 C.2.2.2.2.1 gL_law_X1_thrown rfl rfl rfl (by decide +kernel) ⟨Nat.le_of_ble_eq_true rfl, Nat.le_of_ble_eq_true rfl⟩) 0 (ci := 1) rfl rfl rfl dL_law_1041 rfl rfl (Nat.le_of_ble_eq_true rfl) ⟨by omega, by omega⟩ ?_
  refine j_iload (pc := 1044) C dL_law_1044 5 rfl ?_
  refine j_icmp_eq (pc := 1046) C 1051 (a := 0) (b := 0) dL_law_1046 (by decide) ⟨by decide, by decide⟩ ⟨by decide, by decide⟩ (fun _ => ?_) (fun q => absurd rfl q)
  refine j_iload (pc := 1051) C dL_law_1051 5 rfl ?_
  refine j_if_ne (pc := 1053) C 1068 dL_law_1053 (by decide) ⟨by decide, by decide⟩ (fun q => absurd rfl q) (fun _ => ?_)
  refine j_aload_n (pc := 1056) C dL_law_1056 3 rfl ?_
  refine j_iconst (pc := 1057) C dL_law_1057 ?_
  refine j_lald (pc := 1058) C 33 2 rfl rfl (by decide) (by decide) dL_law_1058 ?_
  refine j_iload (pc := 1059) C dL_law_1059 6 rfl ?_
  refine j_i2l (pc := 1061) C dL_law_1061 ?_
  refine j_lcmpE (pc := 1062) C (lw_eq (fidx_eq (fun j j0 j1 => by rw [eK j j0 j1]))) dL_law_1062 ?_
  refine j_if_eq (pc := 1063) C 1068 dL_law_1063 (by decide) ⟨by decide, by decide⟩ (fun _ => ?_) (fun q => absurd rfl q)
  refine j_goto (pc := 1068) C 1713 dL_law_1068 (by decide) ?_
  refine J.swap ?_
  refine J.pick [0, 1, 2, 3, 4] rfl ?_
  refine J.widen (k := cells + 1) (n := slots + 9) (by omega) (by omega) (kont _ ?_)
  exact ⟨_, _, _, _, _, _, _, _, _, _, _, _, _, _, _, _, _, _, _, _, _, _, _, _, _, _, rfl, r.up⟩
set_option maxHeartbeats 4000000 in
set_option maxRecDepth 100000 in
theorem lw_leastOf {p : Program} {l : Launch} {e : Env} {s : State} {m : MethodId} {args : Array Value} {below : List Frame} {meth : Method} {c : Code} {D : va_G} {A : Nat → Prop} {cells slots : Nat} {Q : State → Prop} {c1 c2 c3 : ClassId} {h k : Nat → Nat} {o9 sb n : Nat} {xs : Nat → Int32} (C : GC p s m args meth c cL_law 9 RL wsL_law D (tyS c1 c2 c3) A) (htr : l.stackTraces = false) (hx : xF A s s.heap) (hX : va_X sb n xs s s.heap) (hbl : sb < s.heap.size) (hbA : ¬ A sb) {i : Int} (i0 : 0 ≤ i) (i1 : i + 2 < n) (hn : n ≤ 1536) (hcl : cells + 1 ≤ room_1.cells) (hsl : slots + 9 ≤ room_1.slots) {t : Int} (t0 : 0 ≤ t) (t1 : t < 512) {K Dm : Int → Int} {L : Int} {lo hi su db : Int → Int} {S dy li so sp : Int} {tu ah : Int → Int} {M : Int → Int → Int} {f9 : Nat → Int64} {th : Int} {K' Dm' lo' hi' su' db' : Int → Int} {X : Int → Int → Int} {ke se : Int → Int} (r : Rel t K Dm L lo hi su db S li K' Dm' lo' hi' su' db') (kont : ∀ w, LI (t + 1) c1 c2 c3 h k o9 w → J p l e room_1 s m args below meth c 9 D A (cells + 1) (slots + 9) Q w [(0, .ref sb), (1, .ref (h 0)), (2, .ref (k 0)), (3, .ref o9), (4, .int (zI i))] 1713 []) : J p l e room_1 s m args below meth c 9 D A cells slots Q ((wG h c1 c2 K Dm L lo hi su db S dy li so sp tu ah M ++ [(o9, .inl (c3, 1, .inr (.inl f9)))]) ++ wN k c1 th L K' Dm' S lo' hi' su' db' dy li so sp X ke se) [(0, .ref sb), (1, .ref (h 0)), (2, .ref (k 0)), (3, .ref o9), (4, .int (zI i))] 1071 [] := by
  obtain ⟨⟨⟨hL0, hL⟩, ⟨hS0, hS⟩, hf, hs⟩, hd, hk, ⟨l0, l1⟩, eK, eD, e1, e2, e3, e4⟩ := id r
  obtain ⟨a, ea⟩ : ∃ a, (xs (i + 1).toNat).toInt = a := ⟨_, rfl⟩
  obtain ⟨b, eb⟩ : ∃ b, (xs (i + 2).toNat).toInt = b := ⟨_, rfl⟩
  have ha : zR a := by rw [← ea]; exact zR_of _
  have hb : zR b := by rw [← eb]; exact zR_of _
  obtain ⟨ha1, ha2⟩ := id ha
  obtain ⟨hb1, hb2⟩ := id hb
  by_cases hq0 : 0 ≤ a ∧ a < L
  case neg =>
    refine j_aload_n (pc := 1071) C dL_law_1071 1 rfl ?_
    refine j_aload_n (pc := 1072) C dL_law_1072 0 rfl ?_
    refine j_iload (pc := 1073) C dL_law_1073 4 rfl ?_
    refine j_iconst (pc := 1075) C dL_law_1075 ?_
    refine j_iadd (pc := 1076) C dL_law_1076 ?_
    refine j_sld (pc := 1077) C hX hbl hbA hn (by omega) (by omega) ea dL_law_1077 ?_
    refine j_aload_n (pc := 1078) C dL_law_1078 3 rfl ?_
    refine j_callSIX (pc := 1079) C htr hx (As := [.ref (h 0), .int (zI a), .ref o9]) (rest := []) rfl (kL_leastOf_x1 l D h c1 c2 c3 K Dm L lo hi su db S dy li so sp tu ah M o9 f9 a (by omega) (by omega) ha (by omega)) (vx_cwSW 3 C.2.2.2.2.1 gL_law_L_leastOf rfl rfl rfl (by decide +kernel) ⟨Nat.le_of_ble_eq_true rfl, Nat.le_of_ble_eq_true rfl⟩) dL_law_1079 rfl rfl (Nat.le_of_ble_eq_true rfl) ⟨by omega, by omega⟩ ?_
    refine j_istore (pc := 1082) C dL_law_1082 (by decide) [1, 2, 3, 4, 5, 0] rfl ?_
    refine j_aload_n (pc := 1084) C dL_law_1084 2 rfl ?_
    refine j_aload_n (pc := 1085) C dL_law_1085 0 rfl ?_
    refine j_iload (pc := 1086) C dL_law_1086 4 rfl ?_
    refine j_iconst (pc := 1088) C dL_law_1088 ?_
    refine j_iadd (pc := 1089) C dL_law_1089 ?_
    refine j_sld (pc := 1090) C hX hbl hbA hn (by omega) (by omega) ea dL_law_1090 ?_
    refine J.swap ?_
    refine j_callFI (pc := 1091) C (As := [.int (zI a)]) (rest := []) (kX1_leastOf_no1 l D k c1 c2 c3 th L K' Dm' S lo' hi' su' db' dy li so sp X ke se a (by omega) (by omega) ha (by omega)) [0, 1, 2] rfl (cwV 1 C.2.2.2.2.1 gL_law_X1_leastOf rfl rfl rfl (by decide +kernel) ⟨Nat.le_of_ble_eq_true rfl, Nat.le_of_ble_eq_true rfl⟩) 0 (ci := 1) rfl rfl rfl dL_law_1091 rfl rfl (Nat.le_of_ble_eq_true rfl) ⟨by omega, by omega⟩ ?_
    refine j_istore (pc := 1094) C dL_law_1094 (by decide) [1, 2, 3, 4, 5, 6, 0] rfl ?_
    refine j_aload_n (pc := 1096) C dL_law_1096 2 rfl ?_
    refine j_callFI (pc := 1097) C (As := []) (rest := []) (kX1_thrown l D k c1 c2 c3 _ _ _ _ _ _ _ _ _ _ _ _ _ _ _ _) [0, 1, 2] rfl (cwV 0 C.2.2.2.2.1 gL_law_X1_thrown rfl rfl rfl (by decide +kernel) ⟨Nat.le_of_ble_eq_true rfl, Nat.le_of_ble_eq_true rfl⟩) 0 (ci := 1) rfl rfl rfl dL_law_1097 rfl rfl (Nat.le_of_ble_eq_true rfl) ⟨by omega, by omega⟩ ?_
    refine j_iload (pc := 1100) C dL_law_1100 5 rfl ?_
    refine j_icmp_eq (pc := 1102) C 1107 (a := 1) (b := 1) dL_law_1102 (by decide) ⟨by decide, by decide⟩ ⟨by decide, by decide⟩ (fun _ => ?_) (fun q => absurd rfl q)
    refine j_iload (pc := 1107) C dL_law_1107 5 rfl ?_
    refine j_if_ne (pc := 1109) C 1124 dL_law_1109 (by decide) ⟨by decide, by decide⟩ (fun _ => ?_) (fun q => absurd q (by decide))
    refine j_goto (pc := 1124) C 1713 dL_law_1124 (by decide) ?_
    refine J.swap ?_
    refine J.pick [0, 1, 2, 3, 4] rfl ?_
    refine J.widen (k := cells + 1) (n := slots + 9) (by omega) (by omega) (kont _ ?_)
    exact ⟨_, _, _, _, _, _, _, _, _, _, _, _, _, _, _, _, _, _, _, _, _, _, _, _, _, _, rfl, r.up⟩
  refine j_aload_n (pc := 1071) C dL_law_1071 1 rfl ?_
  refine j_aload_n (pc := 1072) C dL_law_1072 0 rfl ?_
  refine j_iload (pc := 1073) C dL_law_1073 4 rfl ?_
  refine j_iconst (pc := 1075) C dL_law_1075 ?_
  refine j_iadd (pc := 1076) C dL_law_1076 ?_
  refine j_sld (pc := 1077) C hX hbl hbA hn (by omega) (by omega) ea dL_law_1077 ?_
  refine j_aload_n (pc := 1078) C dL_law_1078 3 rfl ?_
  refine j_callSIX (pc := 1079) C htr hx (As := [.ref (h 0), .int (zI a), .ref o9]) (rest := []) rfl (kL_leastOf l D h c1 c2 c3 K Dm L lo hi su db S dy li so sp tu ah M o9 f9 a r.1 (by omega) (by omega)) (vx_cwSW 3 C.2.2.2.2.1 gL_law_L_leastOf rfl rfl rfl (by decide +kernel) ⟨Nat.le_of_ble_eq_true rfl, Nat.le_of_ble_eq_true rfl⟩) dL_law_1079 rfl rfl (Nat.le_of_ble_eq_true rfl) ⟨by omega, by omega⟩ ?_
  refine j_istore (pc := 1082) C dL_law_1082 (by decide) [1, 2, 3, 4, 5, 0] rfl ?_
  refine j_aload_n (pc := 1084) C dL_law_1084 2 rfl ?_
  refine j_aload_n (pc := 1085) C dL_law_1085 0 rfl ?_
  refine j_iload (pc := 1086) C dL_law_1086 4 rfl ?_
  refine j_iconst (pc := 1088) C dL_law_1088 ?_
  refine j_iadd (pc := 1089) C dL_law_1089 ?_
  refine j_sld (pc := 1090) C hX hbl hbA hn (by omega) (by omega) ea dL_law_1090 ?_
  refine J.swap ?_
  refine j_callFI (pc := 1091) C (As := [.int (zI a)]) (rest := []) (kX1_leastOf l D k c1 c2 c3 th L K' Dm' S lo' hi' su' db' dy li so sp X ke se a r.okm (by omega) (by omega)) [0, 1, 2] rfl (cwV 1 C.2.2.2.2.1 gL_law_X1_leastOf rfl rfl rfl (by decide +kernel) ⟨Nat.le_of_ble_eq_true rfl, Nat.le_of_ble_eq_true rfl⟩) 0 (ci := 1) rfl rfl rfl dL_law_1091 rfl rfl (Nat.le_of_ble_eq_true rfl) ⟨by omega, by omega⟩ ?_
  refine j_istore (pc := 1094) C dL_law_1094 (by decide) [1, 2, 3, 4, 5, 6, 0] rfl ?_
  refine j_aload_n (pc := 1096) C dL_law_1096 2 rfl ?_
  refine j_callFI (pc := 1097) C (As := []) (rest := []) (kX1_thrown l D k c1 c2 c3 _ _ _ _ _ _ _ _ _ _ _ _ _ _ _ _) [0, 1, 2] rfl (cwV 0 C.2.2.2.2.1 gL_law_X1_thrown rfl rfl rfl (by decide +kernel) ⟨Nat.le_of_ble_eq_true rfl, Nat.le_of_ble_eq_true rfl⟩) 0 (ci := 1) rfl rfl rfl dL_law_1097 rfl rfl (Nat.le_of_ble_eq_true rfl) ⟨by omega, by omega⟩ ?_
  refine j_iload (pc := 1100) C dL_law_1100 5 rfl ?_
  refine j_icmp_eq (pc := 1102) C 1107 (a := 0) (b := 0) dL_law_1102 (by decide) ⟨by decide, by decide⟩ ⟨by decide, by decide⟩ (fun _ => ?_) (fun q => absurd rfl q)
  refine j_iload (pc := 1107) C dL_law_1107 5 rfl ?_
  refine j_if_ne (pc := 1109) C 1124 dL_law_1109 (by decide) ⟨by decide, by decide⟩ (fun q => absurd rfl q) (fun _ => ?_)
  refine j_aload_n (pc := 1112) C dL_law_1112 3 rfl ?_
  refine j_iconst (pc := 1113) C dL_law_1113 ?_
  refine j_lald (pc := 1114) C 33 2 rfl rfl (by decide) (by decide) dL_law_1114 ?_
  refine j_iload (pc := 1115) C dL_law_1115 6 rfl ?_
  refine j_i2l (pc := 1117) C dL_law_1117 ?_
  refine j_lcmpE (pc := 1118) C (lw_eq (congrArg (fun z : Int => -z) (r.mat M X (a + 1) a (by omega) (by omega) (by omega) (by omega)))) dL_law_1118 ?_
  refine j_if_eq (pc := 1119) C 1124 dL_law_1119 (by decide) ⟨by decide, by decide⟩ (fun _ => ?_) (fun q => absurd rfl q)
  refine j_goto (pc := 1124) C 1713 dL_law_1124 (by decide) ?_
  refine J.swap ?_
  refine J.pick [0, 1, 2, 3, 4] rfl ?_
  refine J.widen (k := cells + 1) (n := slots + 9) (by omega) (by omega) (kont _ ?_)
  exact ⟨_, _, _, _, _, _, _, _, _, _, _, _, _, _, _, _, _, _, _, _, _, _, _, _, _, _, rfl, r.up⟩
set_option maxHeartbeats 4000000 in
set_option maxRecDepth 100000 in
theorem lw_greatestOf {p : Program} {l : Launch} {e : Env} {s : State} {m : MethodId} {args : Array Value} {below : List Frame} {meth : Method} {c : Code} {D : va_G} {A : Nat → Prop} {cells slots : Nat} {Q : State → Prop} {c1 c2 c3 : ClassId} {h k : Nat → Nat} {o9 sb n : Nat} {xs : Nat → Int32} (C : GC p s m args meth c cL_law 9 RL wsL_law D (tyS c1 c2 c3) A) (htr : l.stackTraces = false) (hx : xF A s s.heap) (hX : va_X sb n xs s s.heap) (hbl : sb < s.heap.size) (hbA : ¬ A sb) {i : Int} (i0 : 0 ≤ i) (i1 : i + 2 < n) (hn : n ≤ 1536) (hcl : cells + 1 ≤ room_1.cells) (hsl : slots + 9 ≤ room_1.slots) {t : Int} (t0 : 0 ≤ t) (t1 : t < 512) {K Dm : Int → Int} {L : Int} {lo hi su db : Int → Int} {S dy li so sp : Int} {tu ah : Int → Int} {M : Int → Int → Int} {f9 : Nat → Int64} {th : Int} {K' Dm' lo' hi' su' db' : Int → Int} {X : Int → Int → Int} {ke se : Int → Int} (r : Rel t K Dm L lo hi su db S li K' Dm' lo' hi' su' db') (kont : ∀ w, LI (t + 1) c1 c2 c3 h k o9 w → J p l e room_1 s m args below meth c 9 D A (cells + 1) (slots + 9) Q w [(0, .ref sb), (1, .ref (h 0)), (2, .ref (k 0)), (3, .ref o9), (4, .int (zI i))] 1713 []) : J p l e room_1 s m args below meth c 9 D A cells slots Q ((wG h c1 c2 K Dm L lo hi su db S dy li so sp tu ah M ++ [(o9, .inl (c3, 1, .inr (.inl f9)))]) ++ wN k c1 th L K' Dm' S lo' hi' su' db' dy li so sp X ke se) [(0, .ref sb), (1, .ref (h 0)), (2, .ref (k 0)), (3, .ref o9), (4, .int (zI i))] 1127 [] := by
  obtain ⟨⟨⟨hL0, hL⟩, ⟨hS0, hS⟩, hf, hs⟩, hd, hk, ⟨l0, l1⟩, eK, eD, e1, e2, e3, e4⟩ := id r
  obtain ⟨a, ea⟩ : ∃ a, (xs (i + 1).toNat).toInt = a := ⟨_, rfl⟩
  obtain ⟨b, eb⟩ : ∃ b, (xs (i + 2).toNat).toInt = b := ⟨_, rfl⟩
  have ha : zR a := by rw [← ea]; exact zR_of _
  have hb : zR b := by rw [← eb]; exact zR_of _
  obtain ⟨ha1, ha2⟩ := id ha
  obtain ⟨hb1, hb2⟩ := id hb
  by_cases hq0 : 0 ≤ a ∧ a < L
  case neg =>
    refine j_aload_n (pc := 1127) C dL_law_1127 1 rfl ?_
    refine j_aload_n (pc := 1128) C dL_law_1128 0 rfl ?_
    refine j_iload (pc := 1129) C dL_law_1129 4 rfl ?_
    refine j_iconst (pc := 1131) C dL_law_1131 ?_
    refine j_iadd (pc := 1132) C dL_law_1132 ?_
    refine j_sld (pc := 1133) C hX hbl hbA hn (by omega) (by omega) ea dL_law_1133 ?_
    refine j_aload_n (pc := 1134) C dL_law_1134 3 rfl ?_
    refine j_callSIX (pc := 1135) C htr hx (As := [.ref (h 0), .int (zI a), .ref o9]) (rest := []) rfl (kL_greatestOf_x1 l D h c1 c2 c3 K Dm L lo hi su db S dy li so sp tu ah M o9 f9 a (by omega) (by omega) ha (by omega)) (vx_cwSW 3 C.2.2.2.2.1 gL_law_L_greatestOf rfl rfl rfl (by decide +kernel) ⟨Nat.le_of_ble_eq_true rfl, Nat.le_of_ble_eq_true rfl⟩) dL_law_1135 rfl rfl (Nat.le_of_ble_eq_true rfl) ⟨by omega, by omega⟩ ?_
    refine j_istore (pc := 1138) C dL_law_1138 (by decide) [1, 2, 3, 4, 5, 0] rfl ?_
    refine j_aload_n (pc := 1140) C dL_law_1140 2 rfl ?_
    refine j_aload_n (pc := 1141) C dL_law_1141 0 rfl ?_
    refine j_iload (pc := 1142) C dL_law_1142 4 rfl ?_
    refine j_iconst (pc := 1144) C dL_law_1144 ?_
    refine j_iadd (pc := 1145) C dL_law_1145 ?_
    refine j_sld (pc := 1146) C hX hbl hbA hn (by omega) (by omega) ea dL_law_1146 ?_
    refine J.swap ?_
    refine j_callFI (pc := 1147) C (As := [.int (zI a)]) (rest := []) (kX1_greatestOf_no1 l D k c1 c2 c3 th L K' Dm' S lo' hi' su' db' dy li so sp X ke se a (by omega) (by omega) ha (by omega)) [0, 1, 2] rfl (cwV 1 C.2.2.2.2.1 gL_law_X1_greatestOf rfl rfl rfl (by decide +kernel) ⟨Nat.le_of_ble_eq_true rfl, Nat.le_of_ble_eq_true rfl⟩) 0 (ci := 1) rfl rfl rfl dL_law_1147 rfl rfl (Nat.le_of_ble_eq_true rfl) ⟨by omega, by omega⟩ ?_
    refine j_istore (pc := 1150) C dL_law_1150 (by decide) [1, 2, 3, 4, 5, 6, 0] rfl ?_
    refine j_aload_n (pc := 1152) C dL_law_1152 2 rfl ?_
    refine j_callFI (pc := 1153) C (As := []) (rest := []) (kX1_thrown l D k c1 c2 c3 _ _ _ _ _ _ _ _ _ _ _ _ _ _ _ _) [0, 1, 2] rfl (cwV 0 C.2.2.2.2.1 gL_law_X1_thrown rfl rfl rfl (by decide +kernel) ⟨Nat.le_of_ble_eq_true rfl, Nat.le_of_ble_eq_true rfl⟩) 0 (ci := 1) rfl rfl rfl dL_law_1153 rfl rfl (Nat.le_of_ble_eq_true rfl) ⟨by omega, by omega⟩ ?_
    refine j_iload (pc := 1156) C dL_law_1156 5 rfl ?_
    refine j_icmp_eq (pc := 1158) C 1163 (a := 1) (b := 1) dL_law_1158 (by decide) ⟨by decide, by decide⟩ ⟨by decide, by decide⟩ (fun _ => ?_) (fun q => absurd rfl q)
    refine j_iload (pc := 1163) C dL_law_1163 5 rfl ?_
    refine j_if_ne (pc := 1165) C 1180 dL_law_1165 (by decide) ⟨by decide, by decide⟩ (fun _ => ?_) (fun q => absurd q (by decide))
    refine j_goto (pc := 1180) C 1713 dL_law_1180 (by decide) ?_
    refine J.swap ?_
    refine J.pick [0, 1, 2, 3, 4] rfl ?_
    refine J.widen (k := cells + 1) (n := slots + 9) (by omega) (by omega) (kont _ ?_)
    exact ⟨_, _, _, _, _, _, _, _, _, _, _, _, _, _, _, _, _, _, _, _, _, _, _, _, _, _, rfl, r.up⟩
  refine j_aload_n (pc := 1127) C dL_law_1127 1 rfl ?_
  refine j_aload_n (pc := 1128) C dL_law_1128 0 rfl ?_
  refine j_iload (pc := 1129) C dL_law_1129 4 rfl ?_
  refine j_iconst (pc := 1131) C dL_law_1131 ?_
  refine j_iadd (pc := 1132) C dL_law_1132 ?_
  refine j_sld (pc := 1133) C hX hbl hbA hn (by omega) (by omega) ea dL_law_1133 ?_
  refine j_aload_n (pc := 1134) C dL_law_1134 3 rfl ?_
  refine j_callSIX (pc := 1135) C htr hx (As := [.ref (h 0), .int (zI a), .ref o9]) (rest := []) rfl (kL_greatestOf l D h c1 c2 c3 K Dm L lo hi su db S dy li so sp tu ah M o9 f9 a r.1 (by omega) (by omega)) (vx_cwSW 3 C.2.2.2.2.1 gL_law_L_greatestOf rfl rfl rfl (by decide +kernel) ⟨Nat.le_of_ble_eq_true rfl, Nat.le_of_ble_eq_true rfl⟩) dL_law_1135 rfl rfl (Nat.le_of_ble_eq_true rfl) ⟨by omega, by omega⟩ ?_
  refine j_istore (pc := 1138) C dL_law_1138 (by decide) [1, 2, 3, 4, 5, 0] rfl ?_
  refine j_aload_n (pc := 1140) C dL_law_1140 2 rfl ?_
  refine j_aload_n (pc := 1141) C dL_law_1141 0 rfl ?_
  refine j_iload (pc := 1142) C dL_law_1142 4 rfl ?_
  refine j_iconst (pc := 1144) C dL_law_1144 ?_
  refine j_iadd (pc := 1145) C dL_law_1145 ?_
  refine j_sld (pc := 1146) C hX hbl hbA hn (by omega) (by omega) ea dL_law_1146 ?_
  refine J.swap ?_
  refine j_callFI (pc := 1147) C (As := [.int (zI a)]) (rest := []) (kX1_greatestOf l D k c1 c2 c3 th L K' Dm' S lo' hi' su' db' dy li so sp X ke se a r.okm (by omega) (by omega)) [0, 1, 2] rfl (cwV 1 C.2.2.2.2.1 gL_law_X1_greatestOf rfl rfl rfl (by decide +kernel) ⟨Nat.le_of_ble_eq_true rfl, Nat.le_of_ble_eq_true rfl⟩) 0 (ci := 1) rfl rfl rfl dL_law_1147 rfl rfl (Nat.le_of_ble_eq_true rfl) ⟨by omega, by omega⟩ ?_
  refine j_istore (pc := 1150) C dL_law_1150 (by decide) [1, 2, 3, 4, 5, 6, 0] rfl ?_
  refine j_aload_n (pc := 1152) C dL_law_1152 2 rfl ?_
  refine j_callFI (pc := 1153) C (As := []) (rest := []) (kX1_thrown l D k c1 c2 c3 _ _ _ _ _ _ _ _ _ _ _ _ _ _ _ _) [0, 1, 2] rfl (cwV 0 C.2.2.2.2.1 gL_law_X1_thrown rfl rfl rfl (by decide +kernel) ⟨Nat.le_of_ble_eq_true rfl, Nat.le_of_ble_eq_true rfl⟩) 0 (ci := 1) rfl rfl rfl dL_law_1153 rfl rfl (Nat.le_of_ble_eq_true rfl) ⟨by omega, by omega⟩ ?_
  refine j_iload (pc := 1156) C dL_law_1156 5 rfl ?_
  refine j_icmp_eq (pc := 1158) C 1163 (a := 0) (b := 0) dL_law_1158 (by decide) ⟨by decide, by decide⟩ ⟨by decide, by decide⟩ (fun _ => ?_) (fun q => absurd rfl q)
  refine j_iload (pc := 1163) C dL_law_1163 5 rfl ?_
  refine j_if_ne (pc := 1165) C 1180 dL_law_1165 (by decide) ⟨by decide, by decide⟩ (fun q => absurd rfl q) (fun _ => ?_)
  refine j_aload_n (pc := 1168) C dL_law_1168 3 rfl ?_
  refine j_iconst (pc := 1169) C dL_law_1169 ?_
  refine j_lald (pc := 1170) C 33 2 rfl rfl (by decide) (by decide) dL_law_1170 ?_
  refine j_iload (pc := 1171) C dL_law_1171 6 rfl ?_
  refine j_i2l (pc := 1173) C dL_law_1173 ?_
  refine j_lcmpE (pc := 1174) C (lw_eq (r.mat M X a (a + 1) (by omega) (by omega) (by omega) (by omega))) dL_law_1174 ?_
  refine j_if_eq (pc := 1175) C 1180 dL_law_1175 (by decide) ⟨by decide, by decide⟩ (fun _ => ?_) (fun q => absurd rfl q)
  refine j_goto (pc := 1180) C 1713 dL_law_1180 (by decide) ?_
  refine J.swap ?_
  refine J.pick [0, 1, 2, 3, 4] rfl ?_
  refine J.widen (k := cells + 1) (n := slots + 9) (by omega) (by omega) (kont _ ?_)
  exact ⟨_, _, _, _, _, _, _, _, _, _, _, _, _, _, _, _, _, _, _, _, _, _, _, _, _, _, rfl, r.up⟩
set_option maxHeartbeats 4000000 in
set_option maxRecDepth 100000 in
theorem lw_worstLayer {p : Program} {l : Launch} {e : Env} {s : State} {m : MethodId} {args : Array Value} {below : List Frame} {meth : Method} {c : Code} {D : va_G} {A : Nat → Prop} {cells slots : Nat} {Q : State → Prop} {c1 c2 c3 : ClassId} {h k : Nat → Nat} {o9 sb n : Nat} {xs : Nat → Int32} (C : GC p s m args meth c cL_law 9 RL wsL_law D (tyS c1 c2 c3) A) (htr : l.stackTraces = false) (hx : xF A s s.heap) (hX : va_X sb n xs s s.heap) (hbl : sb < s.heap.size) (hbA : ¬ A sb) {i : Int} (i0 : 0 ≤ i) (i1 : i + 2 < n) (hn : n ≤ 1536) (hcl : cells + 1 ≤ room_1.cells) (hsl : slots + 9 ≤ room_1.slots) {t : Int} (t0 : 0 ≤ t) (t1 : t < 512) {K Dm : Int → Int} {L : Int} {lo hi su db : Int → Int} {S dy li so sp : Int} {tu ah : Int → Int} {M : Int → Int → Int} {f9 : Nat → Int64} {th : Int} {K' Dm' lo' hi' su' db' : Int → Int} {X : Int → Int → Int} {ke se : Int → Int} (r : Rel t K Dm L lo hi su db S li K' Dm' lo' hi' su' db') (kont : ∀ w, LI (t + 1) c1 c2 c3 h k o9 w → J p l e room_1 s m args below meth c 9 D A (cells + 1) (slots + 9) Q w [(0, .ref sb), (1, .ref (h 0)), (2, .ref (k 0)), (3, .ref o9), (4, .int (zI i))] 1713 []) : J p l e room_1 s m args below meth c 9 D A cells slots Q ((wG h c1 c2 K Dm L lo hi su db S dy li so sp tu ah M ++ [(o9, .inl (c3, 1, .inr (.inl f9)))]) ++ wN k c1 th L K' Dm' S lo' hi' su' db' dy li so sp X ke se) [(0, .ref sb), (1, .ref (h 0)), (2, .ref (k 0)), (3, .ref o9), (4, .int (zI i))] 1272 [] := by
  obtain ⟨⟨⟨hL0, hL⟩, ⟨hS0, hS⟩, hf, hs⟩, hd, hk, ⟨l0, l1⟩, eK, eD, e1, e2, e3, e4⟩ := id r
  obtain ⟨a, ea⟩ : ∃ a, (xs (i + 1).toNat).toInt = a := ⟨_, rfl⟩
  obtain ⟨b, eb⟩ : ∃ b, (xs (i + 2).toNat).toInt = b := ⟨_, rfl⟩
  have ha : zR a := by rw [← ea]; exact zR_of _
  have hb : zR b := by rw [← eb]; exact zR_of _
  obtain ⟨ha1, ha2⟩ := id ha
  obtain ⟨hb1, hb2⟩ := id hb
  by_cases hq0 : 0 < L
  case neg =>
    refine j_aload_n (pc := 1272) C dL_law_1272 1 rfl ?_
    refine j_aload_n (pc := 1273) C dL_law_1273 3 rfl ?_
    refine j_callSIX (pc := 1274) C htr hx (As := [.ref (h 0), .ref o9]) (rest := []) rfl (kL_worstLayer_x1 l D h c1 c2 c3 K Dm L lo hi su db S dy li so sp tu ah M o9 f9 (by omega)) (vx_cwSW 2 C.2.2.2.2.1 gL_law_L_worstLayer rfl rfl rfl (by decide +kernel) ⟨Nat.le_of_ble_eq_true rfl, Nat.le_of_ble_eq_true rfl⟩) dL_law_1274 rfl rfl (Nat.le_of_ble_eq_true rfl) ⟨by omega, by omega⟩ ?_
    refine j_istore (pc := 1277) C dL_law_1277 (by decide) [1, 2, 3, 4, 5, 0] rfl ?_
    refine j_aload_n (pc := 1279) C dL_law_1279 2 rfl ?_
    refine J.swap ?_
    refine j_callFI (pc := 1280) C (As := []) (rest := []) (kX1_worstLayer_no1 l D k c1 c2 c3 th L K' Dm' S lo' hi' su' db' dy li so sp X ke se (by omega)) [0, 1, 2] rfl (cwV 0 C.2.2.2.2.1 gL_law_X1_worstLayer rfl rfl rfl (by decide +kernel) ⟨Nat.le_of_ble_eq_true rfl, Nat.le_of_ble_eq_true rfl⟩) 0 (ci := 1) rfl rfl rfl dL_law_1280 rfl rfl (Nat.le_of_ble_eq_true rfl) ⟨by omega, by omega⟩ ?_
    refine j_istore (pc := 1283) C dL_law_1283 (by decide) [1, 2, 3, 4, 5, 6, 0] rfl ?_
    refine j_aload_n (pc := 1285) C dL_law_1285 2 rfl ?_
    refine j_callFI (pc := 1286) C (As := []) (rest := []) (kX1_thrown l D k c1 c2 c3 _ _ _ _ _ _ _ _ _ _ _ _ _ _ _ _) [0, 1, 2] rfl (cwV 0 C.2.2.2.2.1 gL_law_X1_thrown rfl rfl rfl (by decide +kernel) ⟨Nat.le_of_ble_eq_true rfl, Nat.le_of_ble_eq_true rfl⟩) 0 (ci := 1) rfl rfl rfl dL_law_1286 rfl rfl (Nat.le_of_ble_eq_true rfl) ⟨by omega, by omega⟩ ?_
    refine j_iload (pc := 1289) C dL_law_1289 5 rfl ?_
    refine j_icmp_eq (pc := 1291) C 1296 (a := 1) (b := 1) dL_law_1291 (by decide) ⟨by decide, by decide⟩ ⟨by decide, by decide⟩ (fun _ => ?_) (fun q => absurd rfl q)
    refine j_iload (pc := 1296) C dL_law_1296 5 rfl ?_
    refine j_if_ne (pc := 1298) C 1313 dL_law_1298 (by decide) ⟨by decide, by decide⟩ (fun _ => ?_) (fun q => absurd q (by decide))
    refine j_goto (pc := 1313) C 1713 dL_law_1313 (by decide) ?_
    refine J.swap ?_
    refine J.pick [0, 1, 2, 3, 4] rfl ?_
    refine J.widen (k := cells + 1) (n := slots + 9) (by omega) (by omega) (kont _ ?_)
    exact ⟨_, _, _, _, _, _, _, _, _, _, _, _, _, _, _, _, _, _, _, _, _, _, _, _, _, _, rfl, r.up⟩
  refine j_aload_n (pc := 1272) C dL_law_1272 1 rfl ?_
  refine j_aload_n (pc := 1273) C dL_law_1273 3 rfl ?_
  refine j_callSIX (pc := 1274) C htr hx (As := [.ref (h 0), .ref o9]) (rest := []) rfl (kL_worstLayer l D h c1 c2 c3 K Dm L lo hi su db S dy li so sp tu ah M o9 f9 r.1 (by omega)) (vx_cwSW 2 C.2.2.2.2.1 gL_law_L_worstLayer rfl rfl rfl (by decide +kernel) ⟨Nat.le_of_ble_eq_true rfl, Nat.le_of_ble_eq_true rfl⟩) dL_law_1274 rfl rfl (Nat.le_of_ble_eq_true rfl) ⟨by omega, by omega⟩ ?_
  refine j_istore (pc := 1277) C dL_law_1277 (by decide) [1, 2, 3, 4, 5, 0] rfl ?_
  refine j_aload_n (pc := 1279) C dL_law_1279 2 rfl ?_
  refine J.swap ?_
  refine j_callFI (pc := 1280) C (As := []) (rest := []) (kX1_worstLayer l D k c1 c2 c3 th L K' Dm' S lo' hi' su' db' dy li so sp X ke se r.okm (by omega)) [0, 1, 2] rfl (cwV 0 C.2.2.2.2.1 gL_law_X1_worstLayer rfl rfl rfl (by decide +kernel) ⟨Nat.le_of_ble_eq_true rfl, Nat.le_of_ble_eq_true rfl⟩) 0 (ci := 1) rfl rfl rfl dL_law_1280 rfl rfl (Nat.le_of_ble_eq_true rfl) ⟨by omega, by omega⟩ ?_
  refine j_istore (pc := 1283) C dL_law_1283 (by decide) [1, 2, 3, 4, 5, 6, 0] rfl ?_
  refine j_aload_n (pc := 1285) C dL_law_1285 2 rfl ?_
  refine j_callFI (pc := 1286) C (As := []) (rest := []) (kX1_thrown l D k c1 c2 c3 _ _ _ _ _ _ _ _ _ _ _ _ _ _ _ _) [0, 1, 2] rfl (cwV 0 C.2.2.2.2.1 gL_law_X1_thrown rfl rfl rfl (by decide +kernel) ⟨Nat.le_of_ble_eq_true rfl, Nat.le_of_ble_eq_true rfl⟩) 0 (ci := 1) rfl rfl rfl dL_law_1286 rfl rfl (Nat.le_of_ble_eq_true rfl) ⟨by omega, by omega⟩ ?_
  refine j_iload (pc := 1289) C dL_law_1289 5 rfl ?_
  refine j_icmp_eq (pc := 1291) C 1296 (a := 0) (b := 0) dL_law_1291 (by decide) ⟨by decide, by decide⟩ ⟨by decide, by decide⟩ (fun _ => ?_) (fun q => absurd rfl q)
  refine j_iload (pc := 1296) C dL_law_1296 5 rfl ?_
  refine j_if_ne (pc := 1298) C 1313 dL_law_1298 (by decide) ⟨by decide, by decide⟩ (fun q => absurd rfl q) (fun _ => ?_)
  refine j_aload_n (pc := 1301) C dL_law_1301 3 rfl ?_
  refine j_iconst (pc := 1302) C dL_law_1302 ?_
  refine j_lald (pc := 1303) C 33 2 rfl rfl (by decide) (by decide) dL_law_1303 ?_
  refine j_iload (pc := 1304) C dL_law_1304 6 rfl ?_
  refine j_i2l (pc := 1306) C dL_law_1306 ?_
  refine j_lcmpE (pc := 1307) C (lw_eq (r.worst M X (by omega))) dL_law_1307 ?_
  refine j_if_eq (pc := 1308) C 1313 dL_law_1308 (by decide) ⟨by decide, by decide⟩ (fun _ => ?_) (fun q => absurd rfl q)
  refine j_goto (pc := 1313) C 1713 dL_law_1313 (by decide) ?_
  refine J.swap ?_
  refine J.pick [0, 1, 2, 3, 4] rfl ?_
  refine J.widen (k := cells + 1) (n := slots + 9) (by omega) (by omega) (kont _ ?_)
  exact ⟨_, _, _, _, _, _, _, _, _, _, _, _, _, _, _, _, _, _, _, _, _, _, _, _, _, _, rfl, r.up⟩
set_option maxHeartbeats 4000000 in
set_option maxRecDepth 100000 in
theorem lw_leastSum {p : Program} {l : Launch} {e : Env} {s : State} {m : MethodId} {args : Array Value} {below : List Frame} {meth : Method} {c : Code} {D : va_G} {A : Nat → Prop} {cells slots : Nat} {Q : State → Prop} {c1 c2 c3 : ClassId} {h k : Nat → Nat} {o9 sb n : Nat} {xs : Nat → Int32} (C : GC p s m args meth c cL_law 9 RL wsL_law D (tyS c1 c2 c3) A) (htr : l.stackTraces = false) (hx : xF A s s.heap) (hX : va_X sb n xs s s.heap) (hbl : sb < s.heap.size) (hbA : ¬ A sb) {i : Int} (i0 : 0 ≤ i) (i1 : i + 2 < n) (hn : n ≤ 1536) (hcl : cells + 1 ≤ room_1.cells) (hsl : slots + 9 ≤ room_1.slots) {t : Int} (t0 : 0 ≤ t) (t1 : t < 512) {K Dm : Int → Int} {L : Int} {lo hi su db : Int → Int} {S dy li so sp : Int} {tu ah : Int → Int} {M : Int → Int → Int} {f9 : Nat → Int64} {th : Int} {K' Dm' lo' hi' su' db' : Int → Int} {X : Int → Int → Int} {ke se : Int → Int} (r : Rel t K Dm L lo hi su db S li K' Dm' lo' hi' su' db') (kont : ∀ w, LI (t + 1) c1 c2 c3 h k o9 w → J p l e room_1 s m args below meth c 9 D A (cells + 1) (slots + 9) Q w [(0, .ref sb), (1, .ref (h 0)), (2, .ref (k 0)), (3, .ref o9), (4, .int (zI i))] 1713 []) : J p l e room_1 s m args below meth c 9 D A cells slots Q ((wG h c1 c2 K Dm L lo hi su db S dy li so sp tu ah M ++ [(o9, .inl (c3, 1, .inr (.inl f9)))]) ++ wN k c1 th L K' Dm' S lo' hi' su' db' dy li so sp X ke se) [(0, .ref sb), (1, .ref (h 0)), (2, .ref (k 0)), (3, .ref o9), (4, .int (zI i))] 1329 [] := by
  obtain ⟨⟨⟨hL0, hL⟩, ⟨hS0, hS⟩, hf, hs⟩, hd, hk, ⟨l0, l1⟩, eK, eD, e1, e2, e3, e4⟩ := id r
  obtain ⟨a, ea⟩ : ∃ a, (xs (i + 1).toNat).toInt = a := ⟨_, rfl⟩
  obtain ⟨b, eb⟩ : ∃ b, (xs (i + 2).toNat).toInt = b := ⟨_, rfl⟩
  have ha : zR a := by rw [← ea]; exact zR_of _
  have hb : zR b := by rw [← eb]; exact zR_of _
  obtain ⟨ha1, ha2⟩ := id ha
  obtain ⟨hb1, hb2⟩ := id hb
  by_cases hq0 : 0 ≤ a ∧ a ≤ b ∧ b < L
  case neg =>
    refine j_aload_n (pc := 1329) C dL_law_1329 1 rfl ?_
    refine j_aload_n (pc := 1330) C dL_law_1330 0 rfl ?_
    refine j_iload (pc := 1331) C dL_law_1331 4 rfl ?_
    refine j_iconst (pc := 1333) C dL_law_1333 ?_
    refine j_iadd (pc := 1334) C dL_law_1334 ?_
    refine j_sld (pc := 1335) C hX hbl hbA hn (by omega) (by omega) ea dL_law_1335 ?_
    refine j_aload_n (pc := 1336) C dL_law_1336 0 rfl ?_
    refine j_iload (pc := 1337) C dL_law_1337 4 rfl ?_
    refine j_iconst (pc := 1339) C dL_law_1339 ?_
    refine j_iadd (pc := 1340) C dL_law_1340 ?_
    refine j_sld (pc := 1341) C hX hbl hbA hn (by omega) (by omega) eb dL_law_1341 ?_
    refine j_aload_n (pc := 1342) C dL_law_1342 3 rfl ?_
    refine j_callSIX (pc := 1343) C htr hx (As := [.ref (h 0), .int (zI a), .int (zI b), .ref o9]) (rest := []) rfl (kL_leastSum_x1 l D h c1 c2 c3 K Dm L lo hi su db S dy li so sp tu ah M o9 f9 a b (by omega) (by omega) ha hb (by omega)) (vx_cwSW 4 C.2.2.2.2.1 gL_law_L_leastSum rfl rfl rfl (by decide +kernel) ⟨Nat.le_of_ble_eq_true rfl, Nat.le_of_ble_eq_true rfl⟩) dL_law_1343 rfl rfl (Nat.le_of_ble_eq_true rfl) ⟨by omega, by omega⟩ ?_
    refine j_istore (pc := 1346) C dL_law_1346 (by decide) [1, 2, 3, 4, 5, 0] rfl ?_
    refine j_aload_n (pc := 1348) C dL_law_1348 2 rfl ?_
    refine j_aload_n (pc := 1349) C dL_law_1349 0 rfl ?_
    refine j_iload (pc := 1350) C dL_law_1350 4 rfl ?_
    refine j_iconst (pc := 1352) C dL_law_1352 ?_
    refine j_iadd (pc := 1353) C dL_law_1353 ?_
    refine j_sld (pc := 1354) C hX hbl hbA hn (by omega) (by omega) ea dL_law_1354 ?_
    refine j_aload_n (pc := 1355) C dL_law_1355 0 rfl ?_
    refine j_iload (pc := 1356) C dL_law_1356 4 rfl ?_
    refine j_iconst (pc := 1358) C dL_law_1358 ?_
    refine j_iadd (pc := 1359) C dL_law_1359 ?_
    refine j_sld (pc := 1360) C hX hbl hbA hn (by omega) (by omega) eb dL_law_1360 ?_
    refine J.swap ?_
    refine j_callFI (pc := 1361) C (As := [.int (zI a), .int (zI b)]) (rest := []) (kX1_leastSum_no1 l D k c1 c2 c3 th L K' Dm' S lo' hi' su' db' dy li so sp X ke se a b (by omega) (by omega) ha hb (by omega)) [0, 1, 2] rfl (cwV 2 C.2.2.2.2.1 gL_law_X1_leastSum rfl rfl rfl (by decide +kernel) ⟨Nat.le_of_ble_eq_true rfl, Nat.le_of_ble_eq_true rfl⟩) 0 (ci := 1) rfl rfl rfl dL_law_1361 rfl rfl (Nat.le_of_ble_eq_true rfl) ⟨by omega, by omega⟩ ?_
    refine j_istore (pc := 1364) C dL_law_1364 (by decide) [1, 2, 3, 4, 5, 6, 0] rfl ?_
    refine j_aload_n (pc := 1366) C dL_law_1366 2 rfl ?_
    refine j_callFI (pc := 1367) C (As := []) (rest := []) (kX1_thrown l D k c1 c2 c3 _ _ _ _ _ _ _ _ _ _ _ _ _ _ _ _) [0, 1, 2] rfl (cwV 0 C.2.2.2.2.1 gL_law_X1_thrown rfl rfl rfl (by decide +kernel) ⟨Nat.le_of_ble_eq_true rfl, Nat.le_of_ble_eq_true rfl⟩) 0 (ci := 1) rfl rfl rfl dL_law_1367 rfl rfl (Nat.le_of_ble_eq_true rfl) ⟨by omega, by omega⟩ ?_
    refine j_iload (pc := 1370) C dL_law_1370 5 rfl ?_
    refine j_icmp_eq (pc := 1372) C 1377 (a := 1) (b := 1) dL_law_1372 (by decide) ⟨by decide, by decide⟩ ⟨by decide, by decide⟩ (fun _ => ?_) (fun q => absurd rfl q)
    refine j_iload (pc := 1377) C dL_law_1377 5 rfl ?_
    refine j_if_ne (pc := 1379) C 1394 dL_law_1379 (by decide) ⟨by decide, by decide⟩ (fun _ => ?_) (fun q => absurd q (by decide))
    refine j_goto (pc := 1394) C 1713 dL_law_1394 (by decide) ?_
    refine J.swap ?_
    refine J.pick [0, 1, 2, 3, 4] rfl ?_
    refine J.widen (k := cells + 1) (n := slots + 9) (by omega) (by omega) (kont _ ?_)
    exact ⟨_, _, _, _, _, _, _, _, _, _, _, _, _, _, _, _, _, _, _, _, _, _, _, _, _, _, rfl, r.up⟩
  refine j_aload_n (pc := 1329) C dL_law_1329 1 rfl ?_
  refine j_aload_n (pc := 1330) C dL_law_1330 0 rfl ?_
  refine j_iload (pc := 1331) C dL_law_1331 4 rfl ?_
  refine j_iconst (pc := 1333) C dL_law_1333 ?_
  refine j_iadd (pc := 1334) C dL_law_1334 ?_
  refine j_sld (pc := 1335) C hX hbl hbA hn (by omega) (by omega) ea dL_law_1335 ?_
  refine j_aload_n (pc := 1336) C dL_law_1336 0 rfl ?_
  refine j_iload (pc := 1337) C dL_law_1337 4 rfl ?_
  refine j_iconst (pc := 1339) C dL_law_1339 ?_
  refine j_iadd (pc := 1340) C dL_law_1340 ?_
  refine j_sld (pc := 1341) C hX hbl hbA hn (by omega) (by omega) eb dL_law_1341 ?_
  refine j_aload_n (pc := 1342) C dL_law_1342 3 rfl ?_
  refine j_callSIX (pc := 1343) C htr hx (As := [.ref (h 0), .int (zI a), .int (zI b), .ref o9]) (rest := []) rfl (kL_leastSum l D h c1 c2 c3 K Dm L lo hi su db S dy li so sp tu ah M o9 f9 a b r.1 (by omega) (by omega) (by omega)) (vx_cwSW 4 C.2.2.2.2.1 gL_law_L_leastSum rfl rfl rfl (by decide +kernel) ⟨Nat.le_of_ble_eq_true rfl, Nat.le_of_ble_eq_true rfl⟩) dL_law_1343 rfl rfl (Nat.le_of_ble_eq_true rfl) ⟨by omega, by omega⟩ ?_
  refine j_istore (pc := 1346) C dL_law_1346 (by decide) [1, 2, 3, 4, 5, 0] rfl ?_
  refine j_aload_n (pc := 1348) C dL_law_1348 2 rfl ?_
  refine j_aload_n (pc := 1349) C dL_law_1349 0 rfl ?_
  refine j_iload (pc := 1350) C dL_law_1350 4 rfl ?_
  refine j_iconst (pc := 1352) C dL_law_1352 ?_
  refine j_iadd (pc := 1353) C dL_law_1353 ?_
  refine j_sld (pc := 1354) C hX hbl hbA hn (by omega) (by omega) ea dL_law_1354 ?_
  refine j_aload_n (pc := 1355) C dL_law_1355 0 rfl ?_
  refine j_iload (pc := 1356) C dL_law_1356 4 rfl ?_
  refine j_iconst (pc := 1358) C dL_law_1358 ?_
  refine j_iadd (pc := 1359) C dL_law_1359 ?_
  refine j_sld (pc := 1360) C hX hbl hbA hn (by omega) (by omega) eb dL_law_1360 ?_
  refine J.swap ?_
  refine j_callFI (pc := 1361) C (As := [.int (zI a), .int (zI b)]) (rest := []) (kX1_leastSum l D k c1 c2 c3 th L K' Dm' S lo' hi' su' db' dy li so sp X ke se a b r.okm (by omega) (by omega) (by omega)) [0, 1, 2] rfl (cwV 2 C.2.2.2.2.1 gL_law_X1_leastSum rfl rfl rfl (by decide +kernel) ⟨Nat.le_of_ble_eq_true rfl, Nat.le_of_ble_eq_true rfl⟩) 0 (ci := 1) rfl rfl rfl dL_law_1361 rfl rfl (Nat.le_of_ble_eq_true rfl) ⟨by omega, by omega⟩ ?_
  refine j_istore (pc := 1364) C dL_law_1364 (by decide) [1, 2, 3, 4, 5, 6, 0] rfl ?_
  refine j_aload_n (pc := 1366) C dL_law_1366 2 rfl ?_
  refine j_callFI (pc := 1367) C (As := []) (rest := []) (kX1_thrown l D k c1 c2 c3 _ _ _ _ _ _ _ _ _ _ _ _ _ _ _ _) [0, 1, 2] rfl (cwV 0 C.2.2.2.2.1 gL_law_X1_thrown rfl rfl rfl (by decide +kernel) ⟨Nat.le_of_ble_eq_true rfl, Nat.le_of_ble_eq_true rfl⟩) 0 (ci := 1) rfl rfl rfl dL_law_1367 rfl rfl (Nat.le_of_ble_eq_true rfl) ⟨by omega, by omega⟩ ?_
  refine j_iload (pc := 1370) C dL_law_1370 5 rfl ?_
  refine j_icmp_eq (pc := 1372) C 1377 (a := 0) (b := 0) dL_law_1372 (by decide) ⟨by decide, by decide⟩ ⟨by decide, by decide⟩ (fun _ => ?_) (fun q => absurd rfl q)
  refine j_iload (pc := 1377) C dL_law_1377 5 rfl ?_
  refine j_if_ne (pc := 1379) C 1394 dL_law_1379 (by decide) ⟨by decide, by decide⟩ (fun q => absurd rfl q) (fun _ => ?_)
  refine j_aload_n (pc := 1382) C dL_law_1382 3 rfl ?_
  refine j_iconst (pc := 1383) C dL_law_1383 ?_
  refine j_lald (pc := 1384) C 33 2 rfl rfl (by decide) (by decide) dL_law_1384 ?_
  refine j_iload (pc := 1385) C dL_law_1385 6 rfl ?_
  refine j_i2l (pc := 1387) C dL_law_1387 ?_
  refine j_lcmpE (pc := 1388) C (lw_eq (congrArg (fun z : Int => -z) (r.mat M X (b + 1) a (by omega) (by omega) (by omega) (by omega)))) dL_law_1388 ?_
  refine j_if_eq (pc := 1389) C 1394 dL_law_1389 (by decide) ⟨by decide, by decide⟩ (fun _ => ?_) (fun q => absurd rfl q)
  refine j_goto (pc := 1394) C 1713 dL_law_1394 (by decide) ?_
  refine J.swap ?_
  refine J.pick [0, 1, 2, 3, 4] rfl ?_
  refine J.widen (k := cells + 1) (n := slots + 9) (by omega) (by omega) (kont _ ?_)
  exact ⟨_, _, _, _, _, _, _, _, _, _, _, _, _, _, _, _, _, _, _, _, _, _, _, _, _, _, rfl, r.up⟩
