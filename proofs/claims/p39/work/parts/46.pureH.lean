/-! ===== in the end all is as by hand ===== -/
def pDm (li : Int) (Dm : Int → Int) : Int → Bool := fun j => decide (li < Dm j)
def pDr (W : Int → Int → Int) (li : Int) : Int → Bool := fun j => decide (W j (j + 1) ≤ li)
def pWt (W : Int → Int → Int) (li : Int) : Int → Bool := fun j => decide (li < -(W (j + 1) j))
def bI (p : Int → Bool) (i : Int) : Int := if p i = true then 1 else 0
theorem bI_1 {p : Int → Bool} {i : Int} (h : p i = true) : bI p i = 1 := if_pos h
theorem bI_0 {p : Int → Bool} {i : Int} (h : p i = false) : bI p i = 0 := by unfold bI; rw [h]; rfl
theorem bI_in (p : Int → Bool) (i : Int) : 0 ≤ bI p i ∧ bI p i ≤ 1 := by unfold bI; split <;> omega
theorem zs_dn (f : Int → Int) (a b : Int) (h : a < b) : zs f a b = f a + zs f (a + 1) b := by
  have e := zs_cat f a (a + 1) b (by omega) (by omega)
  rw [e, zs_up f a a (Int.le_refl _), zs_0]
  omega
theorem zc_dn (p : Int → Bool) (a b : Int) (h : a < b) : zc p a b = zc p (a + 1) b + bI p a := by
  unfold zc
  rw [zs_dn _ a b h]
  show (if p a = true then 1 else 0) + _ = _
  unfold bI
  omega
/-- the first of a .. b - 1 that is k -/
def FI (K : Int → Int) (k a b v : Int) : Prop := (v = -1 ∧ ∀ j, a ≤ j → j < b → K j ≠ k) ∨ (a ≤ v ∧ v < b ∧ K v = k ∧ ∀ j, a ≤ j → j < v → K j ≠ k)
theorem FI_0 (K : Int → Int) (k b : Int) : FI K k b b (-1) := Or.inl ⟨rfl, fun j h1 h2 => absurd h2 (by omega)⟩
theorem FI_dn {K F1 : Int → Int} {b i : Int} (h : ∀ k, 0 ≤ k → k < 5 → FI K k (i + 1) b (F1 k)) (hi : i < b) : ∀ k, 0 ≤ k → k < 5 → FI K k i b (upZ F1 (K i) i k) := by
  intro k k0 k1
  by_cases e : k = K i
  · subst e
    rw [upZ_s]
    exact Or.inr ⟨Int.le_refl _, hi, rfl, fun j h1 h2 => absurd h2 (by omega)⟩
  · rw [upZ_n e]
    rcases h k k0 k1 with ⟨h1, h2⟩ | ⟨h1, h2, h3, h4⟩
    · refine Or.inl ⟨h1, fun j j0 j1 => ?_⟩
      by_cases q : j = i
      · subst q; exact fun z => e z.symm
      · exact h2 j (by omega) j1
    · refine Or.inr ⟨by omega, h2, h3, fun j j0 j1 => ?_⟩
      by_cases q : j = i
      · subst q; exact fun z => e z.symm
      · exact h4 j (by omega) j1
theorem FI_fidx {K : Int → Int} {k b v : Int} (hb : 0 ≤ b) (h : FI K k 0 b v) : fidx (fun j => decide (K j = k)) b = v := by
  rcases h with ⟨h1, h2⟩ | ⟨h1, h2, h3, h4⟩
  · rw [h1]
    exact fidx_no hb (fun j j0 j1 => decide_eq_false (h2 j j0 j1))
  · exact fidx_is h1 h2 (decide_eq_true h3) (fun j j0 j1 => decide_eq_false (h4 j j0 j1))
theorem FI_in {K : Int → Int} {k a b v : Int} (ha : 0 ≤ a) (h : FI K k a b v) : -1 ≤ v ∧ (v < b ∨ v = -1) := by
  rcases h with ⟨h1, h2⟩ | ⟨h1, h2, h3, h4⟩ <;> omega
theorem FI_m1 (K : Int → Int) (b : Int) : ∀ k, 0 ≤ k → k < 5 → FI K k b b (upZ (upZ (upZ (upZ (upZ (fun _ => 0) 0 (-1)) 1 (-1)) 2 (-1)) 3 (-1)) 4 (-1) k) := by
  intro k k0 k1
  have h : k = 0 ∨ k = 1 ∨ k = 2 ∨ k = 3 ∨ k = 4 := by omega
  have e : upZ (upZ (upZ (upZ (upZ (fun _ => 0) 0 (-1)) 1 (-1)) 2 (-1)) 3 (-1)) 4 (-1) k = -1 := by rcases h with rfl | rfl | rfl | rfl | rfl <;> rfl
  rw [e]
  exact FI_0 K k b
/-- the first greatest of a .. b - 1 -/
def WI (g : Int → Int) (a b w m : Int) : Prop := (a = b ∧ w = -1 ∧ m = -1) ∨ (a ≤ w ∧ w < b ∧ m = g w ∧ (∀ j, a ≤ j → j < b → g j ≤ m) ∧ ∀ j, a ≤ j → j < w → g j < m)
theorem WI.take {g : Int → Int} {i b w m : Int} (h : WI g (i + 1) b w m) (hi : i < b) (h1 : m ≤ g i) (h2 : ∀ j, 0 ≤ j → j < b → 0 ≤ g j) (i0 : 0 ≤ i) : WI g i b i (g i) := by
  refine Or.inr ⟨Int.le_refl _, hi, rfl, fun j j0 j1 => ?_, fun j j0 j1 => absurd j1 (by omega)⟩
  by_cases q : j = i
  · subst q; exact Int.le_refl _
  · rcases h with ⟨a, -, -⟩ | ⟨-, -, -, a, -⟩
    · omega
    · have := a j (by omega) j1; omega
theorem WI.skip {g : Int → Int} {i b w m : Int} (h : WI g (i + 1) b w m) (h1 : g i < m) (h0 : 0 ≤ g i) : WI g i b w m := by
  rcases h with ⟨-, -, a⟩ | ⟨a1, a2, a3, a4, a5⟩
  · omega
  · refine Or.inr ⟨by omega, a2, a3, fun j j0 j1 => ?_, fun j j0 j1 => ?_⟩
    · by_cases q : j = i
      · subst q; omega
      · exact a4 j (by omega) j1
    · by_cases q : j = i
      · subst q; exact h1
      · exact a5 j (by omega) j1
theorem WI.rng {g : Int → Int} {a b w m : Int} (h : WI g a b w m) (ha : 0 ≤ a) (hb : b ≤ 12) (hg : ∀ j, 0 ≤ j → j < b → 0 ≤ g j ∧ g j ≤ 480) : -1 ≤ w ∧ w ≤ 12 ∧ -1 ≤ m ∧ m ≤ 480 := by
  rcases h with ⟨h1, h2, h3⟩ | ⟨a1, a2, a3, -, -⟩
  · omega
  · have := hg w (by omega) a2
    omega
theorem ag_spec (g : Int → Int) : ∀ n : Nat, (0 ≤ agN (fun x y => decide (g y < g x)) n ∧ agN (fun x y => decide (g y < g x)) n ≤ n) ∧ (∀ j : Int, 0 ≤ j → j ≤ n → g j ≤ g (agN (fun x y => decide (g y < g x)) n)) ∧ ∀ j : Int, 0 ≤ j → j < agN (fun x y => decide (g y < g x)) n → g j < g (agN (fun x y => decide (g y < g x)) n)
  | 0 => ⟨⟨Int.le_refl _, Int.le_refl _⟩, fun j j0 j1 => by
      have : j = 0 := by omega
      subst this
      exact Int.le_refl _, fun j j0 j1 => by
      have j1 : j < 0 := j1
      omega⟩
  | n + 1 => by
    obtain ⟨h1, h2, h3⟩ := ag_spec g n
    have e : agN (fun x y => decide (g y < g x)) (n + 1) = if decide (g (agN (fun x y => decide (g y < g x)) n) < g ((n : Int) + 1)) = true then (n : Int) + 1 else agN (fun x y => decide (g y < g x)) n := rfl
    rw [e]
    by_cases c : g (agN (fun x y => decide (g y < g x)) n) < g ((n : Int) + 1)
    · rw [if_pos (decide_eq_true c)]
      refine ⟨by omega, fun j j0 j1 => ?_, fun j j0 j1 => ?_⟩
      · by_cases q : j = (n : Int) + 1
        · subst q; exact Int.le_refl _
        · have := h2 j j0 (by omega); omega
      · have := h2 j j0 (by omega); omega
    · rw [if_neg (by rw [decide_eq_true_eq]; exact c)]
      refine ⟨by omega, fun j j0 j1 => ?_, h3⟩
      by_cases q : j = (n : Int) + 1
      · subst q; omega
      · exact h2 j j0 (by omega)
theorem WI_ag {g : Int → Int} {b w m : Int} (hb : 1 ≤ b) (h : WI g 0 b w m) : ag (fun x y => decide (g y < g x)) b = w := by
  obtain ⟨h1, h2, h3⟩ := ag_spec g (b - 1).toNat
  show agN _ (b - 1).toNat = w
  rcases h with ⟨a, -, -⟩ | ⟨a1, a2, a3, a4, a5⟩
  · omega
  · generalize agN (fun x y => decide (g y < g x)) (b - 1).toNat = v at h1 h2 h3 ⊢
    rcases Int.lt_trichotomy v w with q | q | q
    · have x1 := a5 v h1.1 q
      have x2 := h2 w a1 (by omega)
      omega
    · exact q
    · have x1 := h3 w a1 q
      have x2 := a4 v h1.1 (by omega)
      omega
theorem eqL_ag {L : Int} {X Y : Int → Int → Int} (hL : 1 ≤ L) (h : eqL L X Y) : ag (fun x y => decide (X y (y + 1) < X x (x + 1))) L = ag (fun x y => decide (Y y (y + 1) < Y x (x + 1))) L := ag_eq hL (fun x y x0 x1 y0 y1 => by rw [h x (x + 1) x0 (by omega) (by omega) (by omega), h y (y + 1) y0 (by omega) (by omega) (by omega)])
theorem dcmp_all : (List.range 481).all (fun a => (List.range 13).all (fun b => b == 0 || decide (Op.cmpValue (FP.dcmp (FP.ddiv (FP.i2d (nI a)) (FP.i2d (nI b))) (FP.ddiv (FP.i2d (nI a)) (FP.i2d (nI b)))) .l = 0))) = true := by decide +kernel
theorem dcmp_mean {a b : Int} (a0 : 0 ≤ a) (a1 : a ≤ 480) (b0 : 1 ≤ b) (b1 : b ≤ 12) : Op.cmpValue (FP.dcmp (FP.ddiv (FP.i2d (zI a)) (FP.i2d (zI b))) (FP.ddiv (FP.i2d (zI a)) (FP.i2d (zI b)))) .l = 0 := by
  obtain ⟨n, rfl⟩ := Int.eq_ofNat_of_zero_le a0
  obtain ⟨k, rfl⟩ := Int.eq_ofNat_of_zero_le (show 0 ≤ b by omega)
  rw [zI_nI (by omega), zI_nI (by omega)]
  have h := List.all_eq_true.mp dcmp_all n (List.mem_range.mpr (by omega))
  have h2 := List.all_eq_true.mp h k (List.mem_range.mpr (by omega))
  simp only [Bool.or_eq_true, beq_iff_eq, decide_eq_true_eq] at h2
  rcases h2 with h2 | h2
  · omega
  · exact h2
theorem dcmp_0 : Op.cmpValue (FP.dcmp FP.dconst0 FP.dconst0) .l = 0 := by decide +kernel
