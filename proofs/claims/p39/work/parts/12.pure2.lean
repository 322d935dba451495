/-! ===== plain words: days ===== -/
theorem pull_pos {f : Int → Int} {L a b : Int} (h : 0 < pull f L a b) : 0 ≤ b ∧ b < L ∧ 2 ≤ f b - f a := by
  unfold pull at h
  split at h
  · omega
  · split at h
    · omega
    · split at h <;> omega
theorem pull_neg {f : Int → Int} {L a b : Int} (h : pull f L a b < 0) : 0 ≤ b ∧ b < L ∧ f b - f a ≤ -2 := by
  unfold pull at h
  split at h
  · omega
  · split at h
    · omega
    · split at h <;> omega
theorem turn_le {f : Int → Int} {L : Int} (hf : ∀ j, 0 ≤ j → j < L → 0 ≤ f j ∧ f j ≤ 40) (j : Int) (h0 : 0 ≤ j) (h1 : j < L) : 0 ≤ turnD f L j ∧ turnD f L j ≤ 40 := by
  have e0 := hf j h0 h1
  unfold turnD turn
  split
  · rename_i h
    have q : 0 < pull f L j (j - 1) ∨ 0 < pull f L j (j + 1) := by omega
    rcases q with q | q
    · obtain ⟨a, b, c⟩ := pull_pos q
      have := hf _ a b
      omega
    · obtain ⟨a, b, c⟩ := pull_pos q
      have := hf _ a b
      omega
  · split
    · rename_i h
      have q : pull f L j (j - 1) < 0 ∨ pull f L j (j + 1) < 0 := by omega
      rcases q with q | q
      · obtain ⟨a, b, c⟩ := pull_neg q
        have := hf _ a b
        omega
      · obtain ⟨a, b, c⟩ := pull_neg q
        have := hf _ a b
        omega
    · omega
def dayN (f : Int → Int) (L : Int) : Nat → Int → Int
  | 0 => f
  | n + 1 => mix (turnD (dayN f L n) L) (dayN f L n) L
def dayF (f : Int → Int) (L i : Int) : Int → Int := dayN f L i.toNat
def dayTN (f : Int → Int) (L : Int) (t : Int → Int) : Nat → Int → Int
  | 0 => t
  | n + 1 => mix (turn (dayN f L n) L) (dayTN f L t n) L
def dayT (f : Int → Int) (L : Int) (t : Int → Int) (i : Int) : Int → Int := dayTN f L t i.toNat
def dayC (f : Int → Int) (L i : Int) : Int := zs (fun k => turnC (dayF f L k) L) 0 i
theorem dayF_0 (f : Int → Int) (L : Int) : dayF f L 0 = f := rfl
theorem dayT_0 (f : Int → Int) (L : Int) (t : Int → Int) : dayT f L t 0 = t := rfl
theorem dayF_up (f : Int → Int) (L i : Int) (h : 0 ≤ i) : dayF f L (i + 1) = mix (turnD (dayF f L i) L) (dayF f L i) L := by
  unfold dayF
  rw [show (i + 1).toNat = i.toNat + 1 by omega]
  rfl
theorem dayT_up (f : Int → Int) (L : Int) (t : Int → Int) (i : Int) (h : 0 ≤ i) : dayT f L t (i + 1) = mix (turn (dayF f L i) L) (dayT f L t i) L := by
  unfold dayF dayT
  rw [show (i + 1).toNat = i.toNat + 1 by omega]
  rfl
theorem dayC_up (f : Int → Int) (L i : Int) (h : 0 ≤ i) : dayC f L (i + 1) = dayC f L i + turnC (dayF f L i) L := zs_up _ 0 i h
theorem dayC_0 (f : Int → Int) (L : Int) : dayC f L 0 = 0 := zs_0 _ 0
theorem dayF_in {f : Int → Int} {L : Int} (hf : ∀ j, 0 ≤ j → j < L → 0 ≤ f j ∧ f j ≤ 40) (i : Int) : ∀ j, 0 ≤ j → j < L → 0 ≤ dayF f L i j ∧ dayF f L i j ≤ 40 := by
  unfold dayF
  generalize i.toNat = n
  induction n with
  | zero => exact hf
  | succ n ih =>
    intro j h0 h1
    show 0 ≤ mix (turnD (dayN f L n) L) (dayN f L n) L j ∧ mix (turnD (dayN f L n) L) (dayN f L n) L j ≤ 40
    rw [mix_lt _ _ _ _ h0 h1]
    exact turn_le ih j h0 h1
/-! ===== plain words: samples drop ===== -/
def cmpN (p : Int → Bool) (f : Int → Int) : Nat → Int → Int
  | 0 => f
  | n + 1 => if p (n : Int) then upZ (cmpN p f n) (zc p 0 n) (f n) else cmpN p f n
def cmp (p : Int → Bool) (f : Int → Int) (i : Int) : Int → Int := cmpN p f i.toNat
theorem cmp_0 (p : Int → Bool) (f : Int → Int) : cmp p f 0 = f := rfl
theorem cmp_t (p : Int → Bool) (f : Int → Int) (i : Int) (h : 0 ≤ i) (e : p i = true) : cmp p f (i + 1) = upZ (cmp p f i) (zc p 0 i) (f i) := by
  obtain ⟨n, rfl⟩ := Int.eq_ofNat_of_zero_le h
  unfold cmp
  rw [show ((n : Int) + 1).toNat = n + 1 by omega, show ((n : Int)).toNat = n by omega]
  show (if p (n : Int) then _ else _) = _
  rw [if_pos e]
theorem cmp_f (p : Int → Bool) (f : Int → Int) (i : Int) (h : 0 ≤ i) (e : p i = false) : cmp p f (i + 1) = cmp p f i := by
  obtain ⟨n, rfl⟩ := Int.eq_ofNat_of_zero_le h
  unfold cmp
  rw [show ((n : Int) + 1).toNat = n + 1 by omega, show ((n : Int)).toNat = n by omega]
  show (if p (n : Int) then _ else _) = _
  rw [if_neg (by rw [e]; decide)]
theorem cmp_ge (p : Int → Bool) (f : Int → Int) (i : Int) (h : 0 ≤ i) : ∀ j, i ≤ j → cmp p f i j = f j := by
  obtain ⟨n, rfl⟩ := Int.eq_ofNat_of_zero_le h
  induction n with
  | zero => intro j _; rfl
  | succ n ih =>
    intro j hj
    have e1 : ((n + 1 : Nat) : Int) = (n : Int) + 1 := by omega
    rw [e1] at hj ⊢
    have hz := zc_le p 0 (n : Int) (by omega)
    cases hp : p (n : Int) with
    | true =>
      rw [cmp_t p f _ (by omega) hp, upZ_n (by omega)]
      exact ih (by omega) j (by omega)
    | false =>
      rw [cmp_f p f _ (by omega) hp]
      exact ih (by omega) j (by omega)
/-! ===== plain words: the rows of most ===== -/
/-- g's values in the rows below i (columns 0 to L) and in row i below j; M's else -/
def mat2 (g M : Int → Int → Int) (L i j : Int) : Int → Int → Int := fun a b => if (0 ≤ a ∧ a < i ∧ 0 ≤ b ∧ b ≤ L) ∨ (a = i ∧ 0 ≤ b ∧ b < j) then g a b else M a b
def matA (g M : Int → Int → Int) (L : Int) : Int → Int → Int := mat2 g M L (L + 1) 0
theorem mat2_0 (g M : Int → Int → Int) (L : Int) : mat2 g M L 0 0 = M := by
  funext a b
  unfold mat2
  rw [if_neg (by omega)]
theorem mat2_row (g M : Int → Int → Int) (L i : Int) (h : 0 ≤ i) : mat2 g M L (i + 1) 0 = mat2 g M L i (L + 1) := by
  funext a b
  unfold mat2
  by_cases q : (0 ≤ a ∧ a < i ∧ 0 ≤ b ∧ b ≤ L) ∨ (a = i ∧ 0 ≤ b ∧ b < L + 1)
  · rw [if_pos q, if_pos (by omega)]
  · rw [if_neg q, if_neg (by omega)]
theorem mat2_up (g M : Int → Int → Int) (L i j : Int) (h : 0 ≤ i) (h0 : 0 ≤ j) (h1 : j ≤ L) : mat2 g M L i (j + 1) = up2 (mat2 g M L i j) i j (g i j) := by
  funext a b
  unfold up2 mat2
  by_cases q : a = i ∧ b = j
  · obtain ⟨rfl, rfl⟩ := q
    rw [if_pos (by omega), if_pos ⟨rfl, rfl⟩]
  · rw [if_neg q]
    by_cases q2 : (0 ≤ a ∧ a < i ∧ 0 ≤ b ∧ b ≤ L) ∨ (a = i ∧ 0 ≤ b ∧ b < j)
    · rw [if_pos q2, if_pos (by omega)]
    · rw [if_neg q2, if_neg (by omega)]
theorem mat2_at (g M : Int → Int → Int) (L i j : Int) (h : 0 ≤ i) (h0 : 0 ≤ j) (h1 : j ≤ L) : mat2 g M L i j i j = M i j := by
  unfold mat2
  rw [if_neg (by omega)]
theorem mat2_eq (g M : Int → Int → Int) (L i j a b : Int) (e : g a b = M a b) : mat2 g M L i j a b = M a b := by
  unfold mat2
  split
  · exact e
  · rfl
theorem matA_in (g M : Int → Int → Int) (L a b : Int) (h0 : 0 ≤ a) (h1 : a ≤ L) (h2 : 0 ≤ b) (h3 : b ≤ L) : matA g M L a b = g a b := by
  unfold matA mat2
  rw [if_pos (by omega)]
theorem matA_same (g M : Int → Int → Int) (L : Int) (e : ∀ a b, 0 ≤ a → a ≤ L → 0 ≤ b → b ≤ L → g a b = M a b) : matA g M L = M := by
  funext a b
  unfold matA mat2
  split
  · exact e a b (by omega) (by omega) (by omega) (by omega)
  · rfl
def n40 : Int → Int → Int := fun a b => if a < b then (b - a) * 40 else 0
def hdg (M : Int → Int → Int) (a b d : Int) : Int → Int → Int := fun x y => min (M x y) (M x a + d + M b y)
def hdM (M : Int → Int → Int) (L a b d : Int) : Int → Int → Int := matA (hdg M a b d) M L
def wgN (L : Int) (lo hi su db : Int → Int) (M : Int → Int → Int) : Nat → Int → Int → Int
  | 0 => matA n40 M L
  | n + 1 => hdM (hdM (wgN L lo hi su db M n) L (lo n) (hi n + 1) (su n + db n)) L (hi n + 1) (lo n) (db n - su n)
def wg (L : Int) (lo hi su db : Int → Int) (M : Int → Int → Int) (i : Int) : Int → Int → Int := wgN L lo hi su db M i.toNat
theorem wg_0 (L : Int) (lo hi su db : Int → Int) (M : Int → Int → Int) : wg L lo hi su db M 0 = matA n40 M L := rfl
theorem wg_up (L : Int) (lo hi su db : Int → Int) (M : Int → Int → Int) (i : Int) (h : 0 ≤ i) : wg L lo hi su db M (i + 1) = hdM (hdM (wg L lo hi su db M i) L (lo i) (hi i + 1) (su i + db i)) L (hi i + 1) (lo i) (db i - su i) := by
  obtain ⟨n, rfl⟩ := Int.eq_ofNat_of_zero_le h
  unfold wg
  rw [show ((n : Int) + 1).toNat = n + 1 by omega, show ((n : Int)).toNat = n by omega]
  rfl
