/-! ===== the law: cell ===== -/
set_option maxHeartbeats 4000000 in
set_option maxRecDepth 100000 in
theorem kL_cell (l : Launch) (D : va_G) (c1 c2 c3 : ClassId) (b n : Nat) (xs : Nat → Int32) (k : Int) (hn : n ≤ 260) (h0 : 0 ≤ k) (h1 : k < 1000) : eI l yL_cell wsL_cell ({ frames := 0, cells := 0, slots := 0, locals := 0 }) D (tyS c1 c2 c3) [.ref b, .int (zI k)] ([]) (E2 b n xs) (fun (u9 : Unit) => True) (fun (u9 : Unit) => []) (fun (u9 : Unit) => zI (cv xs n 790386105 k)) 0 0 := by
  refine eI.of (cc := cL_cell) (maxL := 2) (ret := .int) (by decide) rfl (lv := [(0, .ref b), (1, .int (zI k))]) [0, 1] rfl (Nat.le_of_ble_eq_true rfl) ?_
  intro p e s m args below meth c A C hr hE hAw
  have ho : va_AOA .int s := hE.1
  have hX := hE.2.2.1
  have hb := hE.2.2.2
  have C : GC p s m args meth c cL_cell 2 RL wsL_cell D (tyS c1 c2 c3) A := C
  have hbA : ¬ A b := fun q9 => (hAw b q9).elim (fun ⟨k9, e9, h9⟩ => by simp at h9) (fun h9 => absurd hb (Nat.not_lt.mpr h9))
  refine J.cast (ws' := []) (lv' := [(0, .ref b), (1, .int (zI k))]) (st' := []) ?_ (by rfl) rfl rfl
  refine j_iload_n (pc := 0) C dL_cell_0 1 rfl ?_
  refine j_aload_n (pc := 1) C dL_cell_1 0 rfl ?_
  refine j_slen (pc := 2) C hX hb hbA (by omega) dL_cell_2 ?_
  refine j_icmp_ge (pc := 3) C 12 dL_cell_3 (by decide) ⟨by omega, by omega⟩ ⟨by omega, by omega⟩ (fun c_3 => ?_) (fun c_3 => ?_)
  · skip
    refine j_ldc (pc := 12) C (z := 790386105) (C.w 1 rfl) (by decide +kernel) dL_cell_12 ?_
    refine j_iload_n (pc := 14) C dL_cell_14 1 rfl ?_
    refine j_iconst (pc := 15) C dL_cell_15 ?_
    refine j_iadd (pc := 16) C dL_cell_16 ?_
    refine j_imul (pc := 17) C dL_cell_17 ?_
    exact j_iretE (pc := 18) C hr dL_cell_18 () trivial (by unfold cv; rw [if_neg (by omega)]) (by rfl) (by omega) (by omega)
  · skip
    refine j_aload_n (pc := 6) C dL_cell_6 0 rfl ?_
    refine j_iload_n (pc := 7) C dL_cell_7 1 rfl ?_
    refine j_sld (pc := 8) C hX hb hbA (by omega) (by omega) (by omega) dL_cell_8 ?_
    refine j_goto (pc := 9) C 18 dL_cell_9 (by decide) ?_
    exact j_iretE (pc := 18) C hr dL_cell_18 () trivial (by unfold cv; rw [if_pos (by omega)]) (by rfl) (by omega) (by omega)
