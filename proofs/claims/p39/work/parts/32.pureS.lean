/-! ===== Sim's world ===== -/
noncomputable def decW : DecidableEq (Nat × va_E) := fun a b => Classical.propDecidable (a = b)
theorem perm_of_count {a b : va_W} (h : ∀ cnt : va_W → Nat, (∀ x y, cnt (x ++ y) = cnt x + cnt y) → cnt [] = 0 → cnt a = cnt b) : a.Perm b := by
  refine (@List.perm_iff_count (Nat × va_E) (@instBEqOfDecidableEq _ decW) (by letI := decW; infer_instance) a b).mpr (fun x => ?_)
  exact h (fun y => @List.count _ (@instBEqOfDecidableEq _ decW) x y) (fun u v => @List.count_append _ (@instBEqOfDecidableEq _ decW) x u v) rfl
abbrev eRef (c2 : ClassId) (n : Nat) (f : Nat → Nat) : va_E := .inl (c2, n, .inr (.inr (.inr (.inr (fun j => some (f j))))))
abbrev eRow (c1 : ClassId) (x : vp_A) : va_E := .inl (c1, x)
def gN (c2 : ClassId) (a : Nat) (n : Nat) (f : Nat → Option Nat) : va_W := [(a, .inl (c2, n, .inr (.inr (.inr (.inr f)))))]
theorem gN0 (c2 : ClassId) (f : Nat → Nat) : vp_cell c2 (0, .inr (.inr (.inr (.inr (fun _ => none))))) = vp_cell c2 (0, .inr (.inr (.inr (.inr (fun j => some (f j)))))) := by
  show arrV c2 0 (fun _ => va_rf none) = arrV c2 0 (fun j => va_rf (some (f j)))
  unfold arrV
  congr 2
  funext j
  exact absurd j.isLt (Nat.not_lt_zero _)
theorem gN_cell (c2 : ClassId) (n : Nat) (g : Nat → Option Nat) (f : Nat → Nat) (h : ∀ j, j < n → g j = some (f j)) : vp_cell c2 (n, .inr (.inr (.inr (.inr g)))) = vp_cell c2 (n, .inr (.inr (.inr (.inr (fun j => some (f j)))))) := by
  show arrV c2 n (fun j => va_rf (g j)) = arrV c2 n (fun j => va_rf (some (f j)))
  unfold arrV
  congr 2
  funext j
  show va_rf (g j) = va_rf (some (f j))
  rw [h j j.isLt]
theorem gR_cell (c2 : ClassId) (n : Nat) (g f : Nat → Nat) (h : ∀ j, j < n → g j = f j) : vp_cell c2 (n, .inr (.inr (.inr (.inr (fun j => some (g j)))))) = vp_cell c2 (n, .inr (.inr (.inr (.inr (fun j => some (f j)))))) := gN_cell c2 n _ f (fun j hj => by rw [h j hj])
theorem gA_cell (c1 : ClassId) (n : Nat) (f g : Int → Int) (h : ∀ j : Int, 0 ≤ j → j < n → f j = g j) : vp_cell c1 (n, .inl (zA f)) = vp_cell c1 (n, .inl (zA g)) := by
  show arrV c1 n (fun j => .int (zA f j)) = arrV c1 n (fun j => .int (zA g j))
  unfold arrV
  congr 2
  funext j
  have := j.isLt
  show Value.int (zI (f ((j : Nat) : Int))) = Value.int (zI (g ((j : Nat) : Int)))
  rw [h ((j : Nat) : Int) (by omega) (by omega)]
theorem alen_eq {n : Nat} {z : Int} (h : z = n) (hn : n < 2147483648) : Int32.ofNat n = zI z := by
  subst h
  exact (zI_nI hn).symm
theorem fL_set1 (K Dm : Int → Int) (i v : Int) : ∀ j x : Int, 0 ≤ x → x < 2 → upR (fL K Dm) i (upZ (fL K Dm i) 1 v) j x = fL K (upZ Dm i v) j x := by
  intro j x x0 x1
  unfold upR
  by_cases h : j = i
  · subst h
    rw [if_pos rfl]
    unfold upZ fL rowL
    by_cases h1 : x = 1
    · subst h1; simp
    · have h0 : x = 0 := by omega
      subst h0; simp
  · rw [if_neg h]
    unfold fL upZ
    rw [if_neg h]
theorem gB_atN {c1 : ClassId} {r : Nat → Nat} {n m : Nat} {F : Int → Int → Int} {i : Nat} (h : i < n) : (gB c1 r n m F)[i]? = some (r i, .inl (c1, m, .inl (zA (F (i : Int))))) := by
  have := gB_at (c1 := c1) (r := r) (n := n) (m := m) (F := F) (i := (i : Int)) (by omega) (by omega)
  rwa [show ((i : Int)).toNat = i by omega] at this
/-- the rows' cells are known by their first m places alone -/
theorem gB_cellset {c1 : ClassId} {r : Nat → Nat} {n m : Nat} {F G : Int → Int → Int} (h : ∀ j : Nat, j < n → ∀ k : Int, 0 ≤ k → k < m → F (j : Int) k = G (j : Int) k) : ∀ (i : Nat) (q : Nat × va_E), (gB c1 r n m G)[i]? = some q → ∃ x : vp_A, (gB c1 r n m F)[i]? = some (q.1, .inl (c1, x)) ∧ ∃ y : vp_A, q.2 = .inl (c1, y) ∧ vp_cell c1 x = vp_cell c1 y := by
  intro i q hi
  have hl := (List.getElem?_eq_some_iff.mp hi).1
  rw [gB_len] at hl
  rw [gB_atN hl] at hi
  cases hi
  exact ⟨_, gB_atN hl, _, rfl, gA_cell c1 m _ _ (h i hl)⟩
section SP
variable {p : Program} {l : Launch} {e : Env} {R : Room} {s : State} {m : MethodId} {args : Array Value} {below : List Frame} {meth : Method} {c : Code} {nL : Nat} {D : va_G} {A : Nat → Prop} {cells slots : Nat} {Q : State → Prop} {lv : List (Nat × Value)} {pc : Nat} {st : List Value}
/-- rows whose places agree are the same -/
theorem J.rows {c1 : ClassId} {r : Nat → Nat} {n k : Nat} {F G : Int → Int → Int} {wr : va_W} (h : ∀ j : Nat, j < n → ∀ x : Int, 0 ≤ x → x < k → F (j : Int) x = G (j : Int) x) (kk : J p l e R s m args below meth c nL D A cells slots Q (gB c1 r n k G ++ wr) lv pc st) : J p l e R s m args below meth c nL D A cells slots Q (gB c1 r n k F ++ wr) lv pc st := by
  intro H locs ls hP hD hS hl
  have look : ∀ (i : Nat) (q : Nat × va_E), (gB c1 r n k G ++ wr)[i]? = some q → (∃ q' : Nat × va_E, (gB c1 r n k F ++ wr)[i]? = some q' ∧ q'.1 = q.1) ∧ (∀ _ : True, va_at D vwCl q H) := by
    intro i q hi
    by_cases hin : i < n
    · rw [List.getElem?_append_left (by rw [gB_len]; exact hin)] at hi
      obtain ⟨x, h1, y, h2, h3⟩ := gB_cellset h i q hi
      have h4 : (gB c1 r n k F ++ wr)[i]? = some (q.1, .inl (c1, x)) := by rw [List.getElem?_append_left (by rw [gB_len]; exact hin)]; exact h1
      refine ⟨⟨_, h4, rfl⟩, fun _ => ?_⟩
      have h5 : H[q.1]? = some (vp_cell c1 x) := hP i _ h4
      obtain ⟨qa, qe⟩ := q
      subst h2
      show H[qa]? = some (vp_cell c1 y)
      rw [← h3]; exact h5
    · have h4 : (gB c1 r n k F ++ wr)[i]? = some q := by
        rw [List.getElem?_append_right (by rw [gB_len]; omega)] at hi ⊢
        rw [gB_len] at hi ⊢
        exact hi
      exact ⟨⟨_, h4, rfl⟩, fun _ => hP i q h4⟩
  refine kk H locs ls (fun i q hi => (look i q hi).2 trivial) ⟨fun i j x y hi hj hxy => ?_, fun i q hi => ?_⟩ hS hl
  · obtain ⟨⟨x', a1, a2⟩, -⟩ := look i x hi
    obtain ⟨⟨y', b1, b2⟩, -⟩ := look j y hj
    exact hD.1 i j x' y' a1 b1 (by rw [a2, b2, hxy])
  · obtain ⟨⟨x', a1, a2⟩, -⟩ := look i q hi
    rw [← a2]
    exact hD.2 i x' a1
end SP
theorem fS_set3 (lo hi su db : Int → Int) (i v : Int) : ∀ j x : Int, 0 ≤ x → x < 4 → upR (fS lo hi su db) i (upZ (fS lo hi su db i) 3 v) j x = fS lo hi su (upZ db i v) j x := by
  intro j x x0 x1
  unfold upR
  by_cases h : j = i
  · subst h
    rw [if_pos rfl]
    unfold upZ fS rowS
    have hx : x = 0 ∨ x = 1 ∨ x = 2 ∨ x = 3 := by omega
    rcases hx with rfl | rfl | rfl | rfl <;> simp
  · rw [if_neg h]
    unfold fS upZ
    rw [if_neg h]
/-- but one -/
def sk (r : Nat → Nat) (one : Nat) : Nat → Nat := fun j => if j < one then r j else r (j + 1)
def skF {α : Type} (F : Int → α) (one : Nat) : Int → α := fun j => if j < (one : Int) then F j else F (j + 1)
theorem gB_skip {c1 : ClassId} {r : Nat → Nat} {n m : Nat} {F : Int → Int → Int} {one : Nat} (h : one < n) : (gB c1 r n m F).Perm (gB c1 (sk r one) (n - 1) m (skF F one) ++ gA c1 (r one) m (F (one : Int))) := by
  obtain ⟨k, rfl⟩ : ∃ k, n = one + (1 + k) := ⟨n - one - 1, by omega⟩
  have e1 : gB c1 r (one + (1 + k)) m F = gB c1 r one m F ++ (gA c1 (r one) m (F (one : Int)) ++ gB c1 (fun j => r (one + 1 + j)) k m (fun j => F (one + 1 + j))) := by
    unfold gB gA
    rw [List.range_add, List.map_append, List.map_map, List.range_add, List.map_append, List.map_map]
    congr 1
    congr 1
    apply List.map_congr_left
    intro j _
    simp only [Function.comp_apply]
    rw [show one + (1 + j) = one + 1 + j by omega]
    rw [show (((one + 1 + j : Nat)) : Int) = (one : Int) + 1 + (j : Int) by omega]
  have e2 : gB c1 (sk r one) (one + (1 + k) - 1) m (skF F one) = gB c1 r one m F ++ gB c1 (fun j => r (one + 1 + j)) k m (fun j => F (one + 1 + j)) := by
    unfold gB
    rw [show one + (1 + k) - 1 = one + k by omega, List.range_add, List.map_append, List.map_map]
    congr 1
    · apply List.map_congr_left
      intro j hj
      have hj := List.mem_range.mp hj
      have hj2 : (j : Int) < (one : Int) := by omega
      simp [sk, skF, hj, hj2]
    · apply List.map_congr_left
      intro j _
      have hj2 : ¬ (((one + j : Nat)) : Int) < (one : Int) := by omega
      simp only [Function.comp_apply, sk, skF]
      rw [if_neg (by omega), if_neg hj2]
      rw [show one + j + 1 = one + 1 + j by omega, show (((one + j : Nat)) : Int) + 1 = (one : Int) + 1 + (j : Int) by omega]
  rw [e1, e2, List.append_assoc]
  exact (List.perm_append_comm).append_left _
def wS (c1 c2 : ClassId) (o la sa : Nat) (r q : Nat → Nat) (dy li so sp L : Int) (K Dm : Int → Int) (S : Int) (lo hi su db : Int → Int) : va_W := gO o la sa dy li so sp ++ (gR c2 la L.toNat r ++ (gR c2 sa S.toNat q ++ (gB c1 r L.toNat 2 (fL K Dm) ++ (gB c1 q S.toNat 4 (fS lo hi su db) ++ []))))
def wGS (h : Nat → Nat) (c1 c2 : ClassId) (K Dm : Int → Int) (L : Int) (lo hi su db : Int → Int) (S dy li so sp : Int) (tu ah : Int → Int) (M : Int → Int → Int) (o la sa : Nat) (r q : Nat → Nat) : va_W := wG h c1 c2 K Dm L lo hi su db S dy li so sp tu ah M ++ wS c1 c2 o la sa r q dy li so sp L K Dm S lo hi su db
theorem up_none (r : Nat → Nat) {i : Int} (h : 0 ≤ i) : va_up (fun j => if j < i.toNat then some (r j) else none) i.toNat (some (r i.toNat)) = fun j => if j < (i + 1).toNat then some (r j) else none := by
  funext j
  unfold va_up
  by_cases e : j = i.toNat
  · subst e
    rw [if_pos rfl, if_pos (by omega)]
  · rw [if_neg e]
    show (if j < i.toNat then some (r j) else none) = _
    by_cases e2 : j < i.toNat
    · rw [if_pos e2, if_pos (by omega)]
    · rw [if_neg e2, if_neg (by omega)]
theorem up_none0 (r : Nat → Nat) : (fun _ => none : Nat → Option Nat) = fun j => if j < ((0 : Int)).toNat then some (r j) else none := by
  funext j
  rw [if_neg (by omega)]
theorem with_fin (r : Nat → Nat) (v n : Nat) (j : Nat) (h : j < n + 1) : va_up (fun j => if j < ((n : Int)).toNat then some (r j) else none) ((n : Int)).toNat (some v) j = some (if j < n then r j else v) := by
  unfold va_up
  by_cases e : j = n
  · subst e
    rw [if_pos (by omega), if_neg (by omega)]
  · rw [if_neg (by omega)]
    show (if j < ((n : Int)).toNat then some (r j) else none) = _
    rw [if_pos (by omega), if_pos (by omega)]
theorem gB_pushA {c1 : ClassId} {r : Nat → Nat} {n m : Nat} {F : Int → Int → Int} (a : Nat) (g : Int → Int) : gB c1 r n m F ++ gA c1 a m g = gB c1 (fun j => if j < n then r j else a) (n + 1) m (upR F (n : Int) g) := gB_push a g
section SQ
variable {p : Program} {l : Launch} {e : Env} {R : Room} {s : State} {m : MethodId} {args : Array Value} {below : List Frame} {meth : Method} {c : Code} {nL : Nat} {D : va_G} {A : Nat → Prop} {cells slots : Nat} {Q : State → Prop} {lv : List (Nat × Value)} {pc : Nat} {st : List Value} {c1 c2 : ClassId} {wr : va_W}
theorem J.pushS {q : Nat → Nat} {S : Int} {lo hi su db : Int → Int} {a : Nat} {x0 x1 x2 x3 : Int} (h : 0 ≤ S) (k : J p l e R s m args below meth c nL D A cells slots Q (gB c1 (fun j => if j < S.toNat then q j else a) (S + 1).toNat 4 (fS (upZ lo S x0) (upZ hi S x1) (upZ su S x2) (upZ db S x3)) ++ wr) lv pc st) : J p l e R s m args below meth c nL D A cells slots Q ((gB c1 q S.toNat 4 (fS lo hi su db) ++ gA c1 a 4 (upZ (upZ (upZ (upZ (fun _ => 0) 0 x0) 1 x1) 2 x2) 3 x3)) ++ wr) lv pc st := by
  rw [gB_pushA, show S.toNat + 1 = (S + 1).toNat by omega]
  refine J.rows (fun j hj x y0 y1 => ?_) k
  rw [show ((S.toNat : Nat) : Int) = S by omega]
  unfold upR
  by_cases e : (j : Int) = S
  · rw [if_pos e, e]
    have hx : x = 0 ∨ x = 1 ∨ x = 2 ∨ x = 3 := by omega
    rcases hx with rfl | rfl | rfl | rfl <;> simp [upZ, fS, rowS]
  · rw [if_neg e]
    simp [fS, upZ, e]
theorem J.pushL {r : Nat → Nat} {L : Int} {K Dm : Int → Int} {a : Nat} {x0 x1 : Int} (h : 0 ≤ L) (k : J p l e R s m args below meth c nL D A cells slots Q (gB c1 (fun j => if j < L.toNat then r j else a) (L + 1).toNat 2 (fL (upZ K L x0) (upZ Dm L x1)) ++ wr) lv pc st) : J p l e R s m args below meth c nL D A cells slots Q ((gB c1 r L.toNat 2 (fL K Dm) ++ gA c1 a 2 (upZ (upZ (fun _ => 0) 0 x0) 1 x1)) ++ wr) lv pc st := by
  rw [gB_pushA, show L.toNat + 1 = (L + 1).toNat by omega]
  refine J.rows (fun j hj x y0 y1 => ?_) k
  rw [show ((L.toNat : Nat) : Int) = L by omega]
  unfold upR
  by_cases e : (j : Int) = L
  · rw [if_pos e, e]
    have hx : x = 0 ∨ x = 1 := by omega
    rcases hx with rfl | rfl <;> simp [upZ, fL, rowL]
  · rw [if_neg e]
    simp [fL, upZ, e]
/-- the lowest row goes upon all others -/
theorem skF_fL (K Dm : Int → Int) (one : Nat) : skF (fL K Dm) one = fL (skF K one) (skF Dm one) := by
  funext j
  unfold skF fL
  by_cases h : j < (one : Int) <;> simp [h]
theorem skF_fS (lo hi su db : Int → Int) (one : Nat) : skF (fS lo hi su db) one = fS (skF lo one) (skF hi one) (skF su one) (skF db one) := by
  funext j
  unfold skF fS
  by_cases h : j < (one : Int) <;> simp [h]
end SQ
abbrev GU : Type := (Int → Int) × (Int → Int) × Int × (Int → Int) × (Int → Int) × (Int → Int) × (Int → Int) × Int × Int × Int × Int × Int × (Int → Int) × (Int → Int) × (Int → Int → Int) × Nat × Nat × (Nat → Nat) × (Nat → Nat)
def wU (h : Nat → Nat) (c1 c2 : ClassId) (o : Nat) : GU → va_W
  | (K, Dm, L, lo, hi, su, db, S, dy, li, so, sp, tu, ah, M, la, sa, r, q) => wG h c1 c2 K Dm L lo hi su db S dy li so sp tu ah M ++ wS c1 c2 o la sa r q dy li so sp L K Dm S lo hi su db
