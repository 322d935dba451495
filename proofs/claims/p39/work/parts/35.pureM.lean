/-! ===== what the law's own most ends with ===== -/
def mg (e : Int) : Int → Int := fun k => if e < k then 40 * (k - e) else 0
def MI (L e : Int) (W : Int → Int → Int) (f : Int → Int) : Prop := (∀ k, 0 ≤ k → k ≤ L → W e k ≤ f k ∧ f k ≤ 480) ∧ f e ≤ 0
def EA (f : Int → Int) (i : Int) : Prop := ∀ j, 0 ≤ j → j < i → f (j + 1) ≤ f j + 40 ∧ f j ≤ f (j + 1)
def EB (lo hi su db : Int → Int) (f : Int → Int) (i : Int) : Prop := ∀ j, 0 ≤ j → j < i → f (hi j + 1) ≤ f (lo j) + su j + db j ∧ f (lo j) ≤ f (hi j + 1) - su j + db j
def ST (L e : Int) (W : Int → Int → Int) (f : Int → Int) (E : Prop) (g : Int → Int) (d : Int) : Prop := MI L e W g ∧ (d = 0 ∨ d = 1) ∧ zs g 0 (L + 1) + d ≤ zs f 0 (L + 1) ∧ (d = 0 → g = f ∧ E)
theorem zs_upZ (g : Int → Int) (a v : Int) (n : Nat) (a0 : 0 ≤ a) : zs (upZ g a v) 0 n = if a < n then zs g 0 n - g a + v else zs g 0 n := by
  induction n with
  | zero => rw [if_neg (by omega)]; rfl
  | succ n ih =>
    rw [show ((n + 1 : Nat) : Int) = (n : Int) + 1 by omega, zs_up _ 0 _ (by omega), zs_up _ 0 _ (by omega), ih]
    by_cases h : (n : Int) = a
    · subst h
      rw [upZ_s, if_neg (by omega), if_pos (by omega)]
      omega
    · rw [upZ_n h]
      by_cases h2 : a < (n : Int)
      · rw [if_pos h2, if_pos (by omega)]; omega
      · rw [if_neg h2, if_neg (by omega)]
theorem zs_upL (g : Int → Int) (a v L : Int) (a0 : 0 ≤ a) (a1 : a ≤ L) : zs (upZ g a v) 0 (L + 1) = zs g 0 (L + 1) - g a + v := by
  have h := zs_upZ g a v (L + 1).toNat a0
  rw [show ((L + 1).toNat : Int) = L + 1 by omega, if_pos (by omega)] at h
  exact h
theorem zs_mono {f g : Int → Int} (n : Nat) (h : ∀ k : Int, 0 ≤ k → k < n → f k ≤ g k) : zs f 0 n ≤ zs g 0 n := by
  induction n with
  | zero => exact Int.le_refl _
  | succ n ih =>
    rw [show ((n + 1 : Nat) : Int) = (n : Int) + 1 by omega, zs_up _ 0 _ (by omega), zs_up _ 0 _ (by omega)]
    have h1 := ih (fun k k0 k1 => h k k0 (by omega))
    have h2 := h n (by omega) (by omega)
    omega
theorem MI.up {L e : Int} {W : Int → Int → Int} {g : Int → Int} (h : MI L e W g) (a v : Int) (h1 : W e a ≤ v) (h2 : v ≤ g a) (a0 : 0 ≤ a) (a1 : a ≤ L) : MI L e W (upZ g a v) := by
  refine ⟨fun k k0 k1 => ?_, ?_⟩
  · unfold upZ
    have := h.1 k k0 k1
    split
    · rename_i q; subst q; omega
    · exact this
  · unfold upZ
    split
    · rename_i q; subst q; have := h.2; omega
    · exact h.2
theorem ST.set {L e : Int} {W : Int → Int → Int} {f : Int → Int} {E : Prop} {g : Int → Int} {d : Int} (h : ST L e W f E g d) (E' : Prop) (a v : Int) (h1 : W e a ≤ v) (h2 : v < g a) (a0 : 0 ≤ a) (a1 : a ≤ L) : ST L e W f E' (upZ g a v) 1 := by
  obtain ⟨m, d01, z, -⟩ := h
  refine ⟨m.up a v h1 (by omega) a0 a1, Or.inr rfl, ?_, fun q => absurd q (by decide)⟩
  rw [zs_upL g a v L a0 a1]
  omega
theorem ST.skip {L e : Int} {W : Int → Int → Int} {f : Int → Int} {E E' : Prop} {g : Int → Int} {d : Int} (h : ST L e W f E g d) (k : g = f → E → E') : ST L e W f E' g d := ⟨h.1, h.2.1, h.2.2.1, fun q => ⟨(h.2.2.2 q).1, k (h.2.2.2 q).1 (h.2.2.2 q).2⟩⟩
theorem EA.up {f : Int → Int} {i : Int} (h : EA f i) (h1 : f (i + 1) ≤ f i + 40) (h2 : f i ≤ f (i + 1)) : EA f (i + 1) := fun j j0 j1 => by
  by_cases q : j = i
  · subst q; exact ⟨h1, h2⟩
  · exact h j j0 (by omega)
theorem EB.up {lo hi su db f : Int → Int} {i : Int} (h : EB lo hi su db f i) (h1 : f (hi i + 1) ≤ f (lo i) + su i + db i) (h2 : f (lo i) ≤ f (hi i + 1) - su i + db i) : EB lo hi su db f (i + 1) := fun j j0 j1 => by
  by_cases q : j = i
  · subst q; exact ⟨h1, h2⟩
  · exact h j j0 (by omega)
/-- by one way of two steps -/
theorem wy {Dm : Int → Int} {L : Int} {lo hi su db : Int → Int} {S : Int} (hok : okS Dm L lo hi su db S) (M : Int → Int → Int) (e a b d : Int) (e0 : 0 ≤ e) (e1 : e ≤ L) (a0 : 0 ≤ a) (a1 : a ≤ L) (b0 : 0 ≤ b) (b1 : b ≤ L) (h : wg L lo hi su db M S a b ≤ d) : wg L lo hi su db M S e b ≤ wg L lo hi su db M S e a + d := by
  have w := wg_ok hok M S hok.2.1.1 (Int.le_refl _)
  have := w.2.2 e b a e0 e1 b0 b1 a0 a1
  omega
theorem mst_0 {Dm : Int → Int} {L : Int} {lo hi su db : Int → Int} {S : Int} (hok : okS Dm L lo hi su db S) (M : Int → Int → Int) (e : Int) (e0 : 0 ≤ e) (e1 : e ≤ L) : MI L e (wg L lo hi su db M S) (mix (mg e) (fun _ => 0) (L + 1)) := by
  have hL := hok.1
  have hd := wg_le (L := L) (lo := lo) (hi := hi) (su := su) (db := db) (M := M) 0 (Int.le_refl _) S.toNat
  rw [show (0 : Int) + (S.toNat : Int) = S by have := hok.2.1; omega] at hd
  refine ⟨fun k k0 k1 => ?_, ?_⟩
  · rw [mix_lt _ _ _ _ k0 (by omega)]
    have := hd e k e0 e1 k0 k1
    rw [wg_0, matA_in _ _ _ _ _ e0 e1 k0 k1] at this
    unfold n40 at this
    unfold mg
    split
    · rename_i q; rw [if_pos q] at this; omega
    · rename_i q; rw [if_neg q] at this; omega
  · rw [mix_lt _ _ _ _ e0 (by omega)]
    unfold mg
    rw [if_neg (by omega)]
    exact Int.le_refl _
theorem mst_fin {Dm : Int → Int} {L : Int} {lo hi su db : Int → Int} {S : Int} (hok : okS Dm L lo hi su db S) (M : Int → Int → Int) (e : Int) (e0 : 0 ≤ e) (e1 : e ≤ L) {f : Int → Int} (h : MI L e (wg L lo hi su db M S) f) (hA : EA f L) (hB : EB lo hi su db f S) : ∀ k, 0 ≤ k → k ≤ L → f k = wg L lo hi su db M S e k := by
  have w := wg_ok hok M S hok.2.1.1 (Int.le_refl _)
  have hee : f e = 0 := by
    have a1 := h.2
    have a2 := (h.1 e e0 e1).1
    have a3 := w.2.1 e e0 e1
    omega
  have c := Cl_wg hok (C := fun x y => f y - f x) ⟨fun x _ _ => by show f x - f x = 0; omega, fun x y z _ _ _ _ _ _ => by show f y - f x ≤ f z - f x + (f y - f z); omega⟩ ⟨fun q q0 q1 => by
    have := hA q q0 q1
    show f (q + 1) - f q ≤ 40 ∧ f q - f (q + 1) ≤ 0
    omega, fun n n0 n1 => by
    have := hB n n0 n1
    show f (hi n + 1) - f (lo n) ≤ su n + db n ∧ f (lo n) - f (hi n + 1) ≤ db n - su n
    omega⟩ M S hok.2.1.1 (Int.le_refl _)
  intro k k0 k1
  have a1 := (h.1 k k0 k1).1
  have a2 : f k - f e ≤ wg L lo hi su db M S e k := c e k e0 e1 k0 k1
  omega
theorem mst_mu {L e : Int} {W : Int → Int → Int} {f : Int → Int} {E : Prop} {g : Int → Int} {d : Int} (hL : 0 ≤ L) (h : ST L e W f E g d) : 2 * (zs g 0 (L + 1) - zs (W e) 0 (L + 1)).toNat + d.toNat < 2 * (zs f 0 (L + 1) - zs (W e) 0 (L + 1)).toNat + (1 : Int).toNat := by
  obtain ⟨m, d01, z, k⟩ := h
  have hm := zs_mono (f := W e) (g := g) (L + 1).toNat (fun k k0 k1 => (m.1 k k0 (by omega)).1)
  rw [show ((L + 1).toNat : Int) = L + 1 by omega] at hm
  rcases d01 with rfl | rfl
  · obtain ⟨rfl, -⟩ := k rfl
    omega
  · omega
theorem wg_E {Dm : Int → Int} {L : Int} {lo hi su db : Int → Int} {S : Int} (hok : okS Dm L lo hi su db S) (M : Int → Int → Int) : Ed L lo hi su db S (wg L lo hi su db M S) := wg_Ed hok M
