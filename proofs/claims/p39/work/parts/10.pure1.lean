/-! ===== plain words of the loops: leaves ===== -/
/-- all but the lowest go down, as far as i -/
def shf (f : Int → Int) (i : Int) : Int → Int := fun j => if 0 ≤ j ∧ j + 1 < i then f (j + 1) else f j
theorem shf_1 (f : Int → Int) : shf f 1 = f := by
  funext j
  unfold shf
  rw [if_neg (by omega)]
theorem shf_up (f : Int → Int) (i : Int) (h : 1 ≤ i) : shf f (i + 1) = upZ (shf f i) (i - 1) (shf f i i) := by
  funext j
  unfold upZ shf
  by_cases h1 : j = i - 1
  · subst h1
    rw [if_pos (by omega), if_pos rfl, if_neg (by omega)]
    congr 1; omega
  · rw [if_neg h1]
    by_cases h2 : 0 ≤ j ∧ j + 1 < i
    · rw [if_pos h2, if_pos (by omega)]
    · rw [if_neg h2, if_neg (by omega)]
/-- f a + .. + f (b - 1) -/
def zsN (f : Int → Int) (a : Int) : Nat → Int
  | 0 => 0
  | n + 1 => zsN f a n + f (a + n)
def zs (f : Int → Int) (a b : Int) : Int := zsN f a (b - a).toNat
theorem zs_0 (f : Int → Int) (a : Int) : zs f a a = 0 := by
  unfold zs
  rw [show (a - a).toNat = 0 by omega]
  rfl
theorem zs_up (f : Int → Int) (a i : Int) (h : a ≤ i) : zs f a (i + 1) = zs f a i + f i := by
  unfold zs
  rw [show (i + 1 - a).toNat = (i - a).toNat + 1 by omega]
  show zsN f a (i - a).toNat + f (a + ((i - a).toNat : Int)) = _
  rw [show a + ((i - a).toNat : Int) = i by omega]
/-- g's values below i, f's from there on -/
def mix (g f : Int → Int) (i : Int) : Int → Int := fun j => if 0 ≤ j ∧ j < i then g j else f j
theorem mix_0 (g f : Int → Int) : mix g f 0 = f := by
  funext j
  unfold mix
  rw [if_neg (by omega)]
theorem mix_ge (g f : Int → Int) (i j : Int) (h : i ≤ j) : mix g f i j = f j := by
  unfold mix
  rw [if_neg (by omega)]
theorem mix_lt (g f : Int → Int) (i j : Int) (h0 : 0 ≤ j) (h : j < i) : mix g f i j = g j := by
  unfold mix
  rw [if_pos ⟨h0, h⟩]
theorem mix_up (g f : Int → Int) (i : Int) (h : 0 ≤ i) : mix g f (i + 1) = upZ (mix g f i) i (g i) := by
  funext j
  unfold upZ mix
  by_cases h1 : j = i
  · subst h1
    rw [if_pos (by omega), if_pos rfl]
  · rw [if_neg h1]
    by_cases h2 : 0 ≤ j ∧ j < i
    · rw [if_pos h2, if_pos (by omega)]
    · rw [if_neg h2, if_neg (by omega)]
/-- nothing to write at i -/
theorem mix_same (g f : Int → Int) (i : Int) (h : 0 ≤ i) (e : g i = f i) : mix g f (i + 1) = mix g f i := by
  rw [mix_up g f i h]
  funext j
  unfold upZ
  by_cases h1 : j = i
  · subst h1
    rw [if_pos rfl, e, mix_ge g f _ _ (Int.le_refl _)]
  · rw [if_neg h1]
/-- how many of a .. b - 1 have p -/
def zc (p : Int → Bool) (a b : Int) : Int := zs (fun j => if p j then 1 else 0) a b
theorem zc_0 (p : Int → Bool) (a : Int) : zc p a a = 0 := zs_0 _ a
theorem zc_t (p : Int → Bool) (a i : Int) (h : a ≤ i) (e : p i = true) : zc p a (i + 1) = zc p a i + 1 := by
  unfold zc
  rw [zs_up _ a i h, if_pos e]
theorem zc_f (p : Int → Bool) (a i : Int) (h : a ≤ i) (e : p i = false) : zc p a (i + 1) = zc p a i := by
  unfold zc
  rw [zs_up _ a i h, if_neg (by rw [e]; decide), Int.add_zero]
theorem zc_le (p : Int → Bool) (a : Int) (i : Int) (h : a ≤ i) : 0 ≤ zc p a i ∧ zc p a i ≤ i - a := by
  suffices K : ∀ n : Nat, 0 ≤ zc p a (a + n) ∧ zc p a (a + n) ≤ n by
    have := K (i - a).toNat
    rw [show a + ((i - a).toNat : Int) = i by omega] at this
    omega
  intro n
  induction n with
  | zero => simp [zc_0]
  | succ n ih =>
    have e : a + ((n + 1 : Nat) : Int) = (a + n) + 1 := by omega
    rw [e]
    cases hp : p (a + n) with
    | true => rw [zc_t p a _ (by omega) hp]; omega
    | false => rw [zc_f p a _ (by omega) hp]; omega
/-- how a layer is pulled by one beside it; how it turns; a day -/
def pull (f : Int → Int) (L a b : Int) : Int := if b < 0 ∨ L ≤ b then 0 else if 2 ≤ f b - f a then 1 else if f b - f a ≤ -2 then -1 else 0
theorem pull_in (f : Int → Int) (L a b : Int) : -1 ≤ pull f L a b ∧ pull f L a b ≤ 1 := by
  unfold pull
  split
  · omega
  · split
    · omega
    · split <;> omega
def turn (f : Int → Int) (L a : Int) : Int := if 0 < pull f L a (a - 1) + pull f L a (a + 1) then 1 else if pull f L a (a - 1) + pull f L a (a + 1) < 0 then -1 else 0
theorem turn_in (f : Int → Int) (L a : Int) : -1 ≤ turn f L a ∧ turn f L a ≤ 1 := by
  unfold turn
  split
  · omega
  · split <;> omega
def turnD (f : Int → Int) (L : Int) : Int → Int := fun j => f j + turn f L j
def turnC (f : Int → Int) (L : Int) : Int := zc (fun j => decide (turn f L j ≠ 0)) 0 L
