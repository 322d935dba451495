/-! ===== the two silos side by side ===== -/
def eqI (n : Int) (f g : Int → Int) : Prop := ∀ j, 0 ≤ j → j < n → f j = g j
def Rel (t : Int) (K Dm : Int → Int) (L : Int) (lo hi su db : Int → Int) (S li : Int) (K' Dm' lo' hi' su' db' : Int → Int) : Prop :=
  okS Dm L lo hi su db S ∧ (∀ n, 0 ≤ n → n < S → db n ≤ 600 * t) ∧ (∀ j, 0 ≤ j → j < L → 0 ≤ K j ∧ K j ≤ 4) ∧ (0 ≤ li ∧ li ≤ 40) ∧
  eqI L K K' ∧ eqI L Dm Dm' ∧ eqI S lo lo' ∧ eqI S hi hi' ∧ eqI S su su' ∧ eqI S db db'
theorem eqI_up {n : Int} {f g : Int → Int} (h : eqI n f g) (v : Int) : eqI (n + 1) (upZ f n v) (upZ g n v) := fun j j0 j1 => by
  unfold upZ
  split
  · rfl
  · exact h j j0 (by omega)
theorem Rel.okm {t : Int} {K Dm : Int → Int} {L : Int} {lo hi su db : Int → Int} {S li : Int} {K' Dm' lo' hi' su' db' : Int → Int} (r : Rel t K Dm L lo hi su db S li K' Dm' lo' hi' su' db') : okS Dm' L lo' hi' su' db' S := by
  obtain ⟨⟨⟨hL0, hL⟩, ⟨hS0, hS⟩, hf, hs⟩, hd, hk, hl, eK, eD, e1, e2, e3, e4⟩ := id r
  refine ⟨⟨hL0, hL⟩, ⟨hS0, hS⟩, fun j j0 j1 => by rw [← eD j j0 j1]; exact hf j j0 j1, fun n n0 n1 => ?_⟩
  have s := hs n n0 n1
  rw [← e1 n n0 n1, ← e2 n n0 n1, ← e3 n n0 n1, ← e4 n n0 n1, ← zs_eq (f := Dm) (g := Dm') (lo n) (hi n + 1) (fun j j0 j1 => eD j (by omega) (by omega))]
  exact s
theorem Rel.km {t : Int} {K Dm : Int → Int} {L : Int} {lo hi su db : Int → Int} {S li : Int} {K' Dm' lo' hi' su' db' : Int → Int} (r : Rel t K Dm L lo hi su db S li K' Dm' lo' hi' su' db') : ∀ j, 0 ≤ j → j < L → 0 ≤ K' j ∧ K' j ≤ 4 := fun j j0 j1 => by
  obtain ⟨⟨⟨hL0, hL⟩, ⟨hS0, hS⟩, hf, hs⟩, hd, hk, hl, eK, eD, e1, e2, e3, e4⟩ := id r
  rw [← eK j j0 j1]
  exact hk j j0 j1
theorem Rel.up {t : Int} {K Dm : Int → Int} {L : Int} {lo hi su db : Int → Int} {S li : Int} {K' Dm' lo' hi' su' db' : Int → Int} (r : Rel t K Dm L lo hi su db S li K' Dm' lo' hi' su' db') : Rel (t + 1) K Dm L lo hi su db S li K' Dm' lo' hi' su' db' := by
  obtain ⟨⟨⟨hL0, hL⟩, ⟨hS0, hS⟩, hf, hs⟩, hd, hk, hl, eK, eD, e1, e2, e3, e4⟩ := id r
  exact ⟨r.1, fun n n0 n1 => by have := hd n n0 n1; omega, hk, hl, eK, eD, e1, e2, e3, e4⟩
theorem Rel.dm {t : Int} {K Dm : Int → Int} {L : Int} {lo hi su db : Int → Int} {S li : Int} {K' Dm' lo' hi' su' db' : Int → Int} (r : Rel t K Dm L lo hi su db S li K' Dm' lo' hi' su' db') (X : Int → Int) (hX : eqI L Dm X) : Rel t K Dm L lo hi su db S li K' X lo' hi' su' db' := by
  obtain ⟨⟨⟨hL0, hL⟩, ⟨hS0, hS⟩, hf, hs⟩, hd, hk, hl, eK, eD, e1, e2, e3, e4⟩ := id r
  exact ⟨r.1, hd, hk, hl, eK, hX, e1, e2, e3, e4⟩
theorem Rel.zse {t : Int} {K Dm : Int → Int} {L : Int} {lo hi su db : Int → Int} {S li : Int} {K' Dm' lo' hi' su' db' : Int → Int} (r : Rel t K Dm L lo hi su db S li K' Dm' lo' hi' su' db') (a b : Int) (a0 : 0 ≤ a) (b1 : b ≤ L) : zs Dm a b = zs Dm' a b := zs_eq a b (fun j j0 j1 => r.2.2.2.2.2.1 j (by omega) (by omega))
theorem Rel.fill {t : Int} {K Dm : Int → Int} {L : Int} {lo hi su db : Int → Int} {S li : Int} {K' Dm' lo' hi' su' db' : Int → Int} (r : Rel t K Dm L lo hi su db S li K' Dm' lo' hi' su' db') (a b : Int) (h0 : 0 ≤ a) (h1 : a ≤ 4) (h2 : 0 ≤ b) (h3 : b ≤ 40) (hlt : L < 12) : Rel (t + 1) (upZ K L a) (upZ Dm L b) (L + 1) lo hi su db S li (upZ K' L a) (upZ Dm' L b) lo' hi' su' db' := by
  obtain ⟨⟨⟨hL0, hL⟩, ⟨hS0, hS⟩, hf, hs⟩, hd, hk, hl, eK, eD, e1, e2, e3, e4⟩ := id r
  refine ⟨⟨⟨by omega, by omega⟩, ⟨hS0, hS⟩, fun j j0 j1 => ?_, fun n n0 n1 => ?_⟩, fun n n0 n1 => by have := hd n n0 n1; omega, fun j j0 j1 => ?_, hl, eqI_up eK a, eqI_up eD b, e1, e2, e3, e4⟩
  · unfold upZ
    split
    · omega
    · exact hf j j0 (by omega)
  · have s := hs n n0 n1
    rw [zs_eq (f := upZ Dm L b) (g := Dm) (lo n) (hi n + 1) (fun j j0 j1 => upZ_n (by omega))]
    omega
  · unfold upZ
    split
    · omega
    · exact hk j j0 (by omega)
theorem Rel.setLimit {t : Int} {K Dm : Int → Int} {L : Int} {lo hi su db : Int → Int} {S li : Int} {K' Dm' lo' hi' su' db' : Int → Int} (r : Rel t K Dm L lo hi su db S li K' Dm' lo' hi' su' db') (a : Int) (h0 : 0 ≤ a) (h1 : a ≤ 40) : Rel (t + 1) K Dm L lo hi su db S a K' Dm' lo' hi' su' db' := by
  obtain ⟨⟨⟨hL0, hL⟩, ⟨hS0, hS⟩, hf, hs⟩, hd, hk, hl, eK, eD, e1, e2, e3, e4⟩ := id r
  exact ⟨r.1, fun n n0 n1 => by have := hd n n0 n1; omega, hk, ⟨h0, h1⟩, eK, eD, e1, e2, e3, e4⟩
theorem Rel.draw {t : Int} {K Dm : Int → Int} {L : Int} {lo hi su db : Int → Int} {S li : Int} {K' Dm' lo' hi' su' db' : Int → Int} (r : Rel t K Dm L lo hi su db S li K' Dm' lo' hi' su' db') (ht : 0 ≤ t) (a b : Int) (h0 : 0 ≤ a) (h1 : a ≤ b) (h2 : b < L) (hlt : S < 16) : Rel (t + 1) K Dm L (upZ lo S a) (upZ hi S b) (upZ su S (zs Dm a (b + 1))) (upZ db S 0) (S + 1) li K' Dm' (upZ lo' S a) (upZ hi' S b) (upZ su' S (zs Dm' a (b + 1))) (upZ db' S 0) := by
  obtain ⟨⟨⟨hL0, hL⟩, ⟨hS0, hS⟩, hf, hs⟩, hd, hk, hl, eK, eD, e1, e2, e3, e4⟩ := id r
  refine ⟨⟨⟨hL0, hL⟩, ⟨by omega, by omega⟩, hf, fun n n0 n1 => ?_⟩, fun n n0 n1 => ?_, hk, hl, eK, eD, eqI_up e1 a, eqI_up e2 b, by rw [← r.zse a (b + 1) h0 (by omega)]; exact eqI_up e3 _, eqI_up e4 0⟩
  · by_cases q : n = S
    · subst q
      rw [upZ_s, upZ_s, upZ_s, upZ_s]
      omega
    · rw [upZ_n q, upZ_n q, upZ_n q, upZ_n q]
      exact hs n n0 (by omega)
  · by_cases q : n = S
    · subst q
      rw [upZ_s]
      omega
    · rw [upZ_n q]
      have := hd n n0 (by omega)
      omega
theorem eqI_shA {n : Int} {f g : Int → Int} (h : eqI n f g) (a : Int) (a0 : 0 ≤ a) : eqI (n - 1) (shA f a n) (shA g a n) := fun j j0 j1 => by
  unfold shA
  split
  · exact h _ (by omega) (by omega)
  · exact h _ j0 (by omega)
theorem Rel.throwAway {t : Int} {K Dm : Int → Int} {L : Int} {lo hi su db : Int → Int} {S li : Int} {K' Dm' lo' hi' su' db' : Int → Int} (r : Rel t K Dm L lo hi su db S li K' Dm' lo' hi' su' db') (a : Int) (h0 : 0 ≤ a) (h1 : a < S) : Rel (t + 1) K Dm L (shA lo a S) (shA hi a S) (shA su a S) (shA db a S) (S - 1) li K' Dm' (shA lo' a (S - 1 + 1)) (shA hi' a (S - 1 + 1)) (shA su' a (S - 1 + 1)) (shA db' a (S - 1 + 1)) := by
  obtain ⟨⟨⟨hL0, hL⟩, ⟨hS0, hS⟩, hf, hs⟩, hd, hk, hl, eK, eD, e1, e2, e3, e4⟩ := id r
  rw [show S - 1 + 1 = S by omega]
  refine ⟨⟨⟨hL0, hL⟩, ⟨by omega, by omega⟩, hf, fun n n0 n1 => ?_⟩, fun n n0 n1 => ?_, hk, hl, eK, eD, eqI_shA e1 a h0, eqI_shA e2 a h0, eqI_shA e3 a h0, eqI_shA e4 a h0⟩
  · unfold shA
    by_cases q : a ≤ n ∧ n + 1 < S
    · rw [if_pos q, if_pos q, if_pos q, if_pos q]
      exact hs _ (by omega) (by omega)
    · rw [if_neg q, if_neg q, if_neg q, if_neg q]
      exact hs _ n0 (by omega)
  · unfold shA
    have a1 := hd n n0 (by omega)
    split
    · have := hd (n + 1) (by omega) (by omega)
      omega
    · omega
/-! ===== days ===== -/
theorem pull_eq {L : Int} {f g : Int → Int} (h : eqI L f g) (a b : Int) (a0 : 0 ≤ a) (a1 : a < L) : pull f L a b = pull g L a b := by
  unfold pull
  by_cases q : b < 0 ∨ L ≤ b
  · rw [if_pos q, if_pos q]
  · rw [if_neg q, if_neg q, h a a0 a1, h b (by omega) (by omega)]
theorem turn_eq {L : Int} {f g : Int → Int} (h : eqI L f g) (a : Int) (a0 : 0 ≤ a) (a1 : a < L) : turn f L a = turn g L a := by
  unfold turn
  rw [pull_eq h a (a - 1) a0 a1, pull_eq h a (a + 1) a0 a1]
theorem dayN_eq {L : Int} {f g : Int → Int} (h : eqI L f g) (n : Nat) : eqI L (dayN f L n) (dayN g L n) := by
  induction n with
  | zero => exact h
  | succ n ih =>
    intro j j0 j1
    show mix (turnD (dayN f L n) L) (dayN f L n) L j = mix (turnD (dayN g L n) L) (dayN g L n) L j
    rw [mix_lt _ _ _ _ j0 j1, mix_lt _ _ _ _ j0 j1]
    unfold turnD
    rw [ih j j0 j1, turn_eq ih j j0 j1]
theorem dayF_eq {L : Int} {f g : Int → Int} (h : eqI L f g) (i : Int) : eqI L (dayF f L i) (dayF g L i) := dayN_eq h i.toNat
theorem zc_eq {p q : Int → Bool} (a b : Int) (h : ∀ j, a ≤ j → j < b → p j = q j) : zc p a b = zc q a b := zs_eq a b (fun j j0 j1 => by rw [h j j0 j1])
theorem turnC_eq {L : Int} {f g : Int → Int} (h : eqI L f g) : turnC f L = turnC g L := zc_eq 0 L (fun j j0 j1 => by rw [turn_eq h j j0 j1])
theorem dayC_eq {L : Int} {f g : Int → Int} (h : eqI L f g) (i : Int) : dayC f L i = dayC g L i := zs_eq 0 i (fun j _ _ => turnC_eq (dayF_eq h j))
theorem fidN_eq {p q : Int → Bool} : ∀ n : Nat, (∀ j : Int, 0 ≤ j → j < n → p j = q j) → fidN p n = fidN q n
  | 0, _ => rfl
  | n + 1, h => by
    unfold fidN
    rw [fidN_eq n (fun j j0 j1 => h j j0 (by omega)), h n (by omega) (by omega)]
theorem fidx_eq {p q : Int → Bool} {L : Int} (h : ∀ j, 0 ≤ j → j < L → p j = q j) : fidx p L = fidx q L := fidN_eq _ (fun j j0 j1 => h j j0 (by omega))
theorem even_eq {L : Int} {f g : Int → Int} (h : eqI L f g) : fidx (fun j => decide (turnC (dayF f L j) L = 0)) 201 = fidx (fun j => decide (turnC (dayF g L j) L = 0)) 201 := fidx_eq (fun j _ _ => by rw [turnC_eq (dayF_eq h j)])
theorem dayN_near (f : Int → Int) (L : Int) (n : Nat) : ∀ j, 0 ≤ j → j < L → dayN f L n j - f j ≤ n ∧ f j - dayN f L n j ≤ n := by
  induction n with
  | zero =>
    intro j _ _
    show f j - f j ≤ _ ∧ f j - f j ≤ _
    omega
  | succ n ih =>
    intro j j0 j1
    have e := ih j j0 j1
    have e2 := turn_in (dayN f L n) L j
    have e3 : dayN f L (n + 1) j = dayN f L n j + turn (dayN f L n) L j := by
      show mix (turnD (dayN f L n) L) (dayN f L n) L j = _
      rw [mix_lt _ _ _ _ j0 j1]
      rfl
    omega
theorem zs_near {f g : Int → Int} (d a b : Int) (hab : a ≤ b) (h : ∀ j, a ≤ j → j < b → f j - g j ≤ d ∧ g j - f j ≤ d) : zs f a b - zs g a b ≤ d * (b - a) ∧ zs g a b - zs f a b ≤ d * (b - a) := by
  suffices K : ∀ n : Nat, a + n ≤ b → zs f a (a + n) - zs g a (a + n) ≤ d * n ∧ zs g a (a + n) - zs f a (a + n) ≤ d * n by
    have := K (b - a).toNat (by omega)
    rw [show a + ((b - a).toNat : Int) = b by omega, show (((b - a).toNat : Nat) : Int) = b - a by omega] at this
    exact this
  intro n
  induction n with
  | zero => intro _; simp [zs_0]
  | succ n ih =>
    intro hn
    have e := ih (by omega)
    have e2 := h (a + n) (by omega) (by omega)
    rw [show a + ((n + 1 : Nat) : Int) = (a + n) + 1 by omega, zs_up f a _ (by omega), zs_up g a _ (by omega), show ((n + 1 : Nat) : Int) = (n : Int) + 1 by omega, Int.mul_add]
    omega
theorem Rel.pass {t : Int} {K Dm : Int → Int} {L : Int} {lo hi su db : Int → Int} {S li : Int} {K' Dm' lo' hi' su' db' : Int → Int} (r : Rel t K Dm L lo hi su db S li K' Dm' lo' hi' su' db') (t0 : 0 ≤ t) (t1 : t < 512) (a : Int) (h0 : 1 ≤ a) (h1 : a ≤ 50) : Rel (t + 1) K (dayF Dm L a) L lo hi su (mix (fun j => db j + a * (hi j - lo j + 1)) db S) S li K' (dayF Dm' L a) lo' hi' su' (mix (fun j => db' j + a * (hi' j - lo' j + 1)) db' S) := by
  obtain ⟨⟨⟨hL0, hL⟩, ⟨hS0, hS⟩, hf, hs⟩, hd, hk, hl, eK, eD, e1, e2, e3, e4⟩ := id r
  have ep : ∀ n, 0 ≤ n → n < S → 0 ≤ a * (hi n - lo n + 1) ∧ a * (hi n - lo n + 1) ≤ 600 := fun n n0 n1 => by
    have s := hs n n0 n1
    have m1 := Int.mul_le_mul (a := a) (b := hi n - lo n + 1) (c := 50) (d := 12) h1 (by omega) (by omega) (by omega)
    have m2 := Int.mul_nonneg (a := a) (b := hi n - lo n + 1) (by omega) (by omega)
    omega
  refine ⟨⟨⟨hL0, hL⟩, ⟨hS0, hS⟩, dayF_in hf a, fun n n0 n1 => ?_⟩, fun n n0 n1 => ?_, hk, hl, eK, dayF_eq eD a, e1, e2, e3, fun n n0 n1 => ?_⟩
  · have s := hs n n0 n1
    have q := ep n n0 n1
    have q2 := hd n n0 n1
    have q3 := zs_near (f := dayF Dm L a) (g := Dm) a (lo n) (hi n + 1) (by omega) (fun j j0 j1 => by
      have := dayN_near Dm L a.toNat j (by omega) (by omega)
      rw [show ((a.toNat : Nat) : Int) = a by omega] at this
      exact this)
    rw [show hi n + 1 - lo n = hi n - lo n + 1 by omega] at q3
    rw [mix_lt _ _ _ _ n0 n1]
    omega
  · have q := ep n n0 n1
    have q2 := hd n n0 n1
    rw [mix_lt _ _ _ _ n0 n1]
    omega
  · rw [mix_lt _ _ _ _ n0 n1, mix_lt _ _ _ _ n0 n1, e1 n n0 n1, e2 n n0 n1, e4 n n0 n1]
/-! ===== samples that stay against samples that go ===== -/
theorem cmp_src (q : Int → Bool) (i : Int) (h : 0 ≤ i) : ∀ t, 0 ≤ t → t < zc q 0 i → ∃ x, 0 ≤ x ∧ x < i ∧ q x = true ∧ ∀ v : Int → Int, cmp q v i t = v x := by
  obtain ⟨n, rfl⟩ := Int.eq_ofNat_of_zero_le h
  induction n with
  | zero =>
    intro t t0 t1
    rw [show ((0 : Nat) : Int) = 0 from rfl, zc_0] at t1
    exact absurd t1 (by omega)
  | succ n ih =>
    intro t t0 t1
    rw [show ((n + 1 : Nat) : Int) = (n : Int) + 1 by omega] at t1 ⊢
    cases hq : q n with
    | true =>
      rw [zc_t q 0 n (by omega) hq] at t1
      by_cases e : t = zc q 0 n
      · refine ⟨n, by omega, by omega, hq, fun v => ?_⟩
        rw [cmp_t q v n (by omega) hq, e, upZ_s]
      · obtain ⟨x, x0, x1, x2, x3⟩ := ih (by omega) t t0 (by omega)
        refine ⟨x, x0, by omega, x2, fun v => ?_⟩
        rw [cmp_t q v n (by omega) hq, upZ_n e]
        exact x3 v
    | false =>
      rw [zc_f q 0 n (by omega) hq] at t1
      obtain ⟨x, x0, x1, x2, x3⟩ := ih (by omega) t t0 t1
      refine ⟨x, x0, by omega, x2, fun v => ?_⟩
      rw [cmp_f q v n (by omega) hq]
      exact x3 v
theorem cmp_at (q : Int → Bool) (v : Int → Int) (k : Int) (hk : 0 ≤ k) (e : q k = true) (n : Nat) : cmp q v (k + 1 + n) (zc q 0 k) = v k ∧ zc q 0 k + 1 ≤ zc q 0 (k + 1 + n) := by
  induction n with
  | zero =>
    rw [show k + 1 + ((0 : Nat) : Int) = k + 1 by omega, cmp_t q v k hk e, zc_t q 0 k hk e, upZ_s]
    exact ⟨rfl, Int.le_refl _⟩
  | succ n ih =>
    rw [show k + 1 + ((n + 1 : Nat) : Int) = (k + 1 + n) + 1 by omega]
    cases hq : q (k + 1 + n) with
    | true =>
      rw [cmp_t q v _ (by omega) hq, zc_t q 0 _ (by omega) hq, upZ_n (by omega)]
      exact ⟨ih.1, by omega⟩
    | false =>
      rw [cmp_f q v _ (by omega) hq, zc_f q 0 _ (by omega) hq]
      exact ih
theorem dA_cmp (p q : Int → Bool) (c : (Int → Int) → Int → (Int → Int)) (f v : Int → Int) (S : Int) (hS : 0 ≤ S) (hpq : ∀ j, 0 ≤ j → j < S → q j = !(p j)) (hc : ∀ g k j, j ≠ k → c g k j = g j) (hv : ∀ g k, 0 ≤ k → k < S → p k = false → g k = f k → c g k k = v k) (n : Nat) (hn : (n : Int) ≤ S) :
    dS p S n = (S - n) + (zc q 0 S - zc q 0 (S - n)) ∧ ∀ t, zc q 0 (S - n) ≤ t → t < zc q 0 S → cmp q v S t = dA p c f S n ((S - n) + (t - zc q 0 (S - n))) := by
  induction n with
  | zero =>
    rw [show S - ((0 : Nat) : Int) = S by omega]
    refine ⟨?_, fun t a b => absurd b (by omega)⟩
    rw [show ((0 : Nat) : Int) = 0 from rfl, dS_0]
    omega
  | succ n ih =>
    have ih := ih (by omega)
    rw [show S - (n : Int) = S - 1 - n + 1 by omega] at ih
    rw [show S - ((n + 1 : Nat) : Int) = S - 1 - n by omega, show ((n + 1 : Nat) : Int) = (n : Int) + 1 by omega]
    cases hp : p (S - 1 - n) with
    | true =>
      have hq : q (S - 1 - n) = false := by rw [hpq _ (by omega) (by omega), hp]; rfl
      rw [zc_f q 0 _ (by omega) hq] at ih
      refine ⟨by rw [dS_t p S n (by omega) hp]; omega, fun t a b => ?_⟩
      rw [dA_t p c f S n (by omega) hp]
      unfold shA
      rw [if_pos (by omega), ih.2 t a b]
      congr 1
      omega
    | false =>
      have hq : q (S - 1 - n) = true := by rw [hpq _ (by omega) (by omega), hp]; rfl
      rw [zc_t q 0 _ (by omega) hq] at ih
      refine ⟨by rw [dS_f p S n (by omega) hp]; omega, fun t a b => ?_⟩
      rw [dA_f p c f S n (by omega) hp]
      by_cases e : t = zc q 0 (S - 1 - n)
      · have w := (cmp_at q v (S - 1 - n) (by omega) hq n).1
        rw [show S - 1 - (n : Int) + 1 + n = S by omega] at w
        rw [e, w, show S - 1 - (n : Int) + (zc q 0 (S - 1 - n) - zc q 0 (S - 1 - n)) = S - 1 - n by omega]
        exact (hv _ _ (by omega) (by omega) hp (dA_lt p c (fun g k j h => hc g k j (by omega)) f S n (by omega) _ (by omega))).symm
      · rw [hc _ _ _ (by omega), ih.2 t (by omega) b]
        congr 1
        omega
theorem dA_fin (p q : Int → Bool) (c : (Int → Int) → Int → (Int → Int)) (f v : Int → Int) (S : Int) (hS : 0 ≤ S) (hpq : ∀ j, 0 ≤ j → j < S → q j = !(p j)) (hc : ∀ g k j, j ≠ k → c g k j = g j) (hv : ∀ g k, 0 ≤ k → k < S → p k = false → g k = f k → c g k k = v k) :
    dS p S S = zc q 0 S ∧ ∀ t, 0 ≤ t → t < zc q 0 S → dA p c f S S t = cmp q v S t := by
  have w := dA_cmp p q c f v S hS hpq hc hv S.toNat (by omega)
  rw [show ((S.toNat : Nat) : Int) = S by omega, show S - S = 0 by omega, zc_0] at w
  refine ⟨by omega, fun t a b => ?_⟩
  rw [w.2 t a b, show 0 + (t - 0) = t by omega]
theorem cNo_n (g : Int → Int) (k j : Int) (_ : j ≠ k) : cNo g k j = g j := rfl
theorem cCut_n (q : Int → Bool) (a : Int) (g : Int → Int) (k j : Int) (h : j ≠ k) : cCut q a g k j = g j := by
  unfold cCut
  split
  · exact upZ_n h
  · rfl
theorem zs_shift {f : Int → Int} {L : Int} (a b : Int) (a0 : 0 ≤ a) (hab : a ≤ b) (hb : b < L) : zs (shf f L) a b = zs f (a + 1) (b + 1) := by
  suffices K : ∀ n : Nat, a + n < L → zs (shf f L) a (a + n) = zs f (a + 1) (a + n + 1) by
    have := K (b - a).toNat (by omega)
    rw [show a + ((b - a).toNat : Int) = b by omega] at this
    exact this
  intro n
  induction n with
  | zero =>
    intro _
    rw [show a + ((0 : Nat) : Int) = a by omega, zs_0, zs_0]
  | succ n ih =>
    intro hn
    rw [show a + ((n + 1 : Nat) : Int) = (a + n) + 1 by omega, zs_up _ a _ (by omega), zs_up f (a + 1) (a + n + 1) (by omega), ih (by omega)]
    congr 1
    unfold shf
    rw [if_pos (by omega)]
theorem shf_in {f : Int → Int} {L j : Int} (j0 : 0 ≤ j) (j1 : j < L - 1) : shf f L j = f (j + 1) := by
  unfold shf
  rw [if_pos (by omega)]
theorem eqI_shf {L : Int} {f g : Int → Int} (h : eqI L f g) : eqI (L - 1) (shf f L) (shf g L) := fun j j0 j1 => by
  rw [shf_in j0 j1, shf_in j0 j1]
  exact h _ (by omega) (by omega)
theorem zs_1 (f : Int → Int) (b : Int) (h : 1 ≤ b) : zs f 0 b = f 0 + zs f 1 b := by
  have e := zs_cat f 0 1 b (by omega) h
  have e2 := zs_up f 0 0 (Int.le_refl _)
  rw [zs_0, show (0 : Int) + 1 = 1 from rfl] at e2
  omega
theorem Rel.letOut {t : Int} {K Dm : Int → Int} {L : Int} {lo hi su db : Int → Int} {S li : Int} {K' Dm' lo' hi' su' db' : Int → Int} (r : Rel t K Dm L lo hi su db S li K' Dm' lo' hi' su' db') (hl1 : 1 ≤ L) : dS (fun j => decide (¬ 0 < lo' j ∧ hi' j = 0)) S S = (zc (fun j => decide (0 < mix (fun j => if lo j = 0 ∧ 0 < hi j then 1 else lo j) lo S j)) 0 S) ∧ Dm' 0 = Dm 0 ∧
    Rel (t + 1) (shf K L) (shf Dm L) (L - 1) (mix (fun j => (cmp (fun j => decide (0 < mix (fun j => if lo j = 0 ∧ 0 < hi j then 1 else lo j) lo S j)) (mix (fun j => if lo j = 0 ∧ 0 < hi j then 1 else lo j) lo S) S) j - 1) (cmp (fun j => decide (0 < mix (fun j => if lo j = 0 ∧ 0 < hi j then 1 else lo j) lo S j)) (mix (fun j => if lo j = 0 ∧ 0 < hi j then 1 else lo j) lo S) S) (zc (fun j => decide (0 < mix (fun j => if lo j = 0 ∧ 0 < hi j then 1 else lo j) lo S j)) 0 S)) (mix (fun j => (cmp (fun j => decide (0 < mix (fun j => if lo j = 0 ∧ 0 < hi j then 1 else lo j) lo S j)) hi S) j - 1) (cmp (fun j => decide (0 < mix (fun j => if lo j = 0 ∧ 0 < hi j then 1 else lo j) lo S j)) hi S) (zc (fun j => decide (0 < mix (fun j => if lo j = 0 ∧ 0 < hi j then 1 else lo j) lo S j)) 0 S)) (cmp (fun j => decide (0 < mix (fun j => if lo j = 0 ∧ 0 < hi j then 1 else lo j) lo S j)) (mix (fun j => if lo j = 0 ∧ 0 < hi j then su j - (Dm 0) else su j) su S) S) (cmp (fun j => decide (0 < mix (fun j => if lo j = 0 ∧ 0 < hi j then 1 else lo j) lo S j)) db S) (zc (fun j => decide (0 < mix (fun j => if lo j = 0 ∧ 0 < hi j then 1 else lo j) lo S j)) 0 S) li (shf K' (L - 1 + 1)) (shf Dm' (L - 1 + 1)) (mix (fun j => if 0 < (dA (fun j => decide (¬ 0 < lo' j ∧ hi' j = 0)) cNo lo' S S) j then (dA (fun j => decide (¬ 0 < lo' j ∧ hi' j = 0)) cNo lo' S S) j - 1 else (dA (fun j => decide (¬ 0 < lo' j ∧ hi' j = 0)) cNo lo' S S) j) (dA (fun j => decide (¬ 0 < lo' j ∧ hi' j = 0)) cNo lo' S S) (dS (fun j => decide (¬ 0 < lo' j ∧ hi' j = 0)) S S)) (mix (fun j => (dA (fun j => decide (¬ 0 < lo' j ∧ hi' j = 0)) cNo hi' S S) j - 1) (dA (fun j => decide (¬ 0 < lo' j ∧ hi' j = 0)) cNo hi' S S) (dS (fun j => decide (¬ 0 < lo' j ∧ hi' j = 0)) S S)) (dA (fun j => decide (¬ 0 < lo' j ∧ hi' j = 0)) (cCut (fun j => decide (¬ 0 < lo' j ∧ ¬ hi' j = 0)) (Dm' 0)) su' S S) (dA (fun j => decide (¬ 0 < lo' j ∧ hi' j = 0)) cNo db' S S) := by
  obtain ⟨⟨⟨hL0, hL⟩, ⟨hS0, hS⟩, hf, hs⟩, hd, hk, hl, eK, eD, e1, e2, e3, e4⟩ := id r
  have e0 : Dm 0 = Dm' 0 := eD 0 (Int.le_refl _) (by omega)
  have hpq : ∀ j, 0 ≤ j → j < S → (fun j => decide (0 < mix (fun j => if lo j = 0 ∧ 0 < hi j then 1 else lo j) lo S j)) j = !((fun j => decide (¬ 0 < lo' j ∧ hi' j = 0)) j) := fun j j0 j1 => by
    show decide (0 < mix (fun j => if lo j = 0 ∧ 0 < hi j then 1 else lo j) lo S j) = !(decide (¬ 0 < lo' j ∧ hi' j = 0))
    have s := hs j j0 j1
    rw [mix_lt _ _ _ _ j0 j1, ← e1 j j0 j1, ← e2 j j0 j1, ← decide_not]
    refine decide_eq_decide.mpr ?_
    show (0 < if lo j = 0 ∧ 0 < hi j then (1 : Int) else lo j) ↔ _
    split <;> omega
  have fn : ∀ f : Int → Int, dS (fun j => decide (¬ 0 < lo' j ∧ hi' j = 0)) S S = (zc (fun j => decide (0 < mix (fun j => if lo j = 0 ∧ 0 < hi j then 1 else lo j) lo S j)) 0 S) ∧ ∀ t, 0 ≤ t → t < (zc (fun j => decide (0 < mix (fun j => if lo j = 0 ∧ 0 < hi j then 1 else lo j) lo S j)) 0 S) → dA (fun j => decide (¬ 0 < lo' j ∧ hi' j = 0)) cNo f S S t = cmp (fun j => decide (0 < mix (fun j => if lo j = 0 ∧ 0 < hi j then 1 else lo j) lo S j)) f S t := fun f => dA_fin (fun j => decide (¬ 0 < lo' j ∧ hi' j = 0)) (fun j => decide (0 < mix (fun j => if lo j = 0 ∧ 0 < hi j then 1 else lo j) lo S j)) cNo f f S hS0 hpq cNo_n (fun g k _ _ _ e => e)
  have fs := (dA_fin (fun j => decide (¬ 0 < lo' j ∧ hi' j = 0)) (fun j => decide (0 < mix (fun j => if lo j = 0 ∧ 0 < hi j then 1 else lo j) lo S j)) (cCut (fun j => decide (¬ 0 < lo' j ∧ ¬ hi' j = 0)) (Dm' 0)) su' (fun j => if (fun j => decide (¬ 0 < lo' j ∧ ¬ hi' j = 0)) j then su' j - Dm' 0 else su' j) S hS0 hpq (cCut_n _ _) (fun g k k0 k1 _ e => by
    unfold cCut
    by_cases q : (fun j => decide (¬ 0 < lo' j ∧ ¬ hi' j = 0)) k = true
    · rw [if_pos q]
      show upZ g k _ k = if (fun j => decide (¬ 0 < lo' j ∧ ¬ hi' j = 0)) k = true then _ else _
      rw [if_pos q, upZ_s, e]
    · rw [if_neg q]
      show g k = if (fun j => decide (¬ 0 < lo' j ∧ ¬ hi' j = 0)) k = true then _ else _
      rw [if_neg q, e])).2
  have zl := zc_le (fun j => decide (0 < mix (fun j => if lo j = 0 ∧ 0 < hi j then 1 else lo j) lo S j)) 0 S hS0
  have src : ∀ n, 0 ≤ n → n < (zc (fun j => decide (0 < mix (fun j => if lo j = 0 ∧ 0 < hi j then 1 else lo j) lo S j)) 0 S) → ∃ x, 0 ≤ x ∧ x < S ∧ (0 < lo x ∨ (lo x = 0 ∧ 0 < hi x)) ∧ (mix (fun j => (cmp (fun j => decide (0 < mix (fun j => if lo j = 0 ∧ 0 < hi j then 1 else lo j) lo S j)) (mix (fun j => if lo j = 0 ∧ 0 < hi j then 1 else lo j) lo S) S) j - 1) (cmp (fun j => decide (0 < mix (fun j => if lo j = 0 ∧ 0 < hi j then 1 else lo j) lo S j)) (mix (fun j => if lo j = 0 ∧ 0 < hi j then 1 else lo j) lo S) S) (zc (fun j => decide (0 < mix (fun j => if lo j = 0 ∧ 0 < hi j then 1 else lo j) lo S j)) 0 S)) n = (if lo x = 0 ∧ 0 < hi x then 1 else lo x) - 1 ∧ (mix (fun j => (cmp (fun j => decide (0 < mix (fun j => if lo j = 0 ∧ 0 < hi j then 1 else lo j) lo S j)) hi S) j - 1) (cmp (fun j => decide (0 < mix (fun j => if lo j = 0 ∧ 0 < hi j then 1 else lo j) lo S j)) hi S) (zc (fun j => decide (0 < mix (fun j => if lo j = 0 ∧ 0 < hi j then 1 else lo j) lo S j)) 0 S)) n = hi x - 1 ∧ (cmp (fun j => decide (0 < mix (fun j => if lo j = 0 ∧ 0 < hi j then 1 else lo j) lo S j)) (mix (fun j => if lo j = 0 ∧ 0 < hi j then su j - (Dm 0) else su j) su S) S) n = (if lo x = 0 ∧ 0 < hi x then su x - Dm 0 else su x) ∧ (cmp (fun j => decide (0 < mix (fun j => if lo j = 0 ∧ 0 < hi j then 1 else lo j) lo S j)) db S) n = db x ∧ ∀ v, cmp (fun j => decide (0 < mix (fun j => if lo j = 0 ∧ 0 < hi j then 1 else lo j) lo S j)) v S n = v x := fun n n0 n1 => by
    obtain ⟨x, x0, x1, xq, xv⟩ := cmp_src (fun j => decide (0 < mix (fun j => if lo j = 0 ∧ 0 < hi j then 1 else lo j) lo S j)) S hS0 n n0 n1
    have s := hs x x0 x1
    refine ⟨x, x0, x1, ?_, ?_, ?_, ?_, xv db, xv⟩
    · have xq : decide (0 < mix (fun j => if lo j = 0 ∧ 0 < hi j then 1 else lo j) lo S x) = true := xq
      rw [mix_lt _ _ _ _ x0 x1] at xq
      have xq := of_decide_eq_true xq
      split at xq <;> omega
    · rw [mix_lt _ _ _ _ n0 n1]
      show cmp (fun j => decide (0 < mix (fun j => if lo j = 0 ∧ 0 < hi j then 1 else lo j) lo S j)) (mix (fun j => if lo j = 0 ∧ 0 < hi j then 1 else lo j) lo S) S n - 1 = _
      rw [xv, mix_lt _ _ _ _ x0 x1]
    · rw [mix_lt _ _ _ _ n0 n1]
      show cmp (fun j => decide (0 < mix (fun j => if lo j = 0 ∧ 0 < hi j then 1 else lo j) lo S j)) hi S n - 1 = _
      rw [xv]
    · rw [xv, mix_lt _ _ _ _ x0 x1]
  refine ⟨(fn lo').1, e0.symm, ⟨⟨by omega, by omega⟩, ⟨zl.1, by omega⟩, fun j j0 j1 => ?_, fun n n0 n1 => ?_⟩, fun n n0 n1 => ?_, fun j j0 j1 => ?_, hl, ?_, ?_, fun n n0 n1 => ?_, fun n n0 n1 => ?_, fun n n0 n1 => ?_, fun n n0 n1 => ?_⟩
  · rw [shf_in j0 j1]
    exact hf _ (by omega) (by omega)
  · obtain ⟨x, x0, x1, xq, a1, a2, a3, a4, _⟩ := src n n0 n1
    rw [a1, a2, a3, a4]
    obtain ⟨s1, s2, s3, s4, s5, s6, s7⟩ := hs x x0 x1
    by_cases q : lo x = 0 ∧ 0 < hi x
    · rw [if_pos q, if_pos q]
      have w := zs_shift (f := Dm) (L := L) 0 (hi x) (Int.le_refl _) (by omega) (by omega)
      have w2 := zs_1 Dm (hi x + 1) (by omega)
      rw [q.1] at s6 s7
      rw [show (1 : Int) - 1 = 0 from rfl, show hi x - 1 + 1 = hi x by omega, w, show (0 : Int) + 1 = 1 from rfl]
      omega
    · rw [if_neg q, if_neg q]
      have w := zs_shift (f := Dm) (L := L) (lo x - 1) (hi x) (by omega) (by omega) (by omega)
      rw [show hi x - 1 + 1 = hi x by omega, w, show lo x - 1 + 1 = lo x by omega]
      omega
  · obtain ⟨x, x0, x1, xq, a1, a2, a3, a4, _⟩ := src n n0 n1
    rw [a4]
    have := hd x x0 x1
    omega
  · rw [shf_in j0 j1]
    exact hk _ (by omega) (by omega)
  · rw [show L - 1 + 1 = L by omega]
    exact eqI_shf eK
  · rw [show L - 1 + 1 = L by omega]
    exact eqI_shf eD
  · obtain ⟨x, x0, x1, xq, a1, a2, a3, a4, xv⟩ := src n n0 n1
    rw [a1, (fn lo').1, mix_lt _ _ _ _ n0 n1]
    show _ = if 0 < (dA (fun j => decide (¬ 0 < lo' j ∧ hi' j = 0)) cNo lo' S S) n then (dA (fun j => decide (¬ 0 < lo' j ∧ hi' j = 0)) cNo lo' S S) n - 1 else (dA (fun j => decide (¬ 0 < lo' j ∧ hi' j = 0)) cNo lo' S S) n
    rw [(fn lo').2 n n0 n1, xv, ← e1 x x0 x1]
    have s := hs x x0 x1
    split <;> split <;> omega
  · obtain ⟨x, x0, x1, xq, a1, a2, a3, a4, xv⟩ := src n n0 n1
    rw [a2, (fn lo').1, mix_lt _ _ _ _ n0 n1]
    show _ = (dA (fun j => decide (¬ 0 < lo' j ∧ hi' j = 0)) cNo hi' S S) n - 1
    rw [(fn hi').2 n n0 n1, xv, ← e2 x x0 x1]
  · obtain ⟨x, x0, x1, xq, a1, a2, a3, a4, xv⟩ := src n n0 n1
    rw [a3, fs n n0 n1, xv]
    show _ = if decide (¬ 0 < lo' x ∧ ¬ hi' x = 0) = true then su' x - Dm' 0 else su' x
    rw [← e1 x x0 x1, ← e2 x x0 x1, ← e3 x x0 x1, ← e0]
    have s := hs x x0 x1
    by_cases q : lo x = 0 ∧ 0 < hi x
    · rw [if_pos q, if_pos (decide_eq_true (by omega))]
    · rw [if_neg q, if_neg (fun w => by have := of_decide_eq_true w; omega)]
  · obtain ⟨x, x0, x1, xq, a1, a2, a3, a4, xv⟩ := src n n0 n1
    rw [a4, (fn db').2 n n0 n1, xv]
    exact e4 x x0 x1
theorem Rel.turnOver {t : Int} {K Dm : Int → Int} {L : Int} {lo hi su db : Int → Int} {S li : Int} {K' Dm' lo' hi' su' db' : Int → Int} (r : Rel t K Dm L lo hi su db S li K' Dm' lo' hi' su' db') (hl1 : 2 ≤ L) : dS (fun j => decide (lo' j = 0)) S S = (zc (fun j => decide (0 < lo j)) 0 S) ∧
    Rel (t + 1) (upZ (shf K L) (L - 1) (K 0)) (upZ (shf Dm L) (L - 1) (Dm 0)) L (mix (fun j => (cmp (fun j => decide (0 < lo j)) lo S) j - 1) (cmp (fun j => decide (0 < lo j)) lo S) (zc (fun j => decide (0 < lo j)) 0 S)) (mix (fun j => (cmp (fun j => decide (0 < lo j)) hi S) j - 1) (cmp (fun j => decide (0 < lo j)) hi S) (zc (fun j => decide (0 < lo j)) 0 S)) (cmp (fun j => decide (0 < lo j)) su S) (cmp (fun j => decide (0 < lo j)) db S) (zc (fun j => decide (0 < lo j)) 0 S) li (upZ (shf K' (L - 1 + 1)) (L - 1) (K' 0)) (upZ (shf Dm' (L - 1 + 1)) (L - 1) (Dm' 0)) (mix (fun j => if 0 < (dA (fun j => decide (lo' j = 0)) cNo lo' S S) j then (dA (fun j => decide (lo' j = 0)) cNo lo' S S) j - 1 else (dA (fun j => decide (lo' j = 0)) cNo lo' S S) j) (dA (fun j => decide (lo' j = 0)) cNo lo' S S) (dS (fun j => decide (lo' j = 0)) S S)) (mix (fun j => (dA (fun j => decide (lo' j = 0)) cNo hi' S S) j - 1) (dA (fun j => decide (lo' j = 0)) cNo hi' S S) (dS (fun j => decide (lo' j = 0)) S S)) (dA (fun j => decide (lo' j = 0)) cNo su' S S) (dA (fun j => decide (lo' j = 0)) cNo db' S S) := by
  obtain ⟨⟨⟨hL0, hL⟩, ⟨hS0, hS⟩, hf, hs⟩, hd, hk, hl, eK, eD, e1, e2, e3, e4⟩ := id r
  have e0 : Dm 0 = Dm' 0 := eD 0 (Int.le_refl _) (by omega)
  have k0 : K 0 = K' 0 := eK 0 (Int.le_refl _) (by omega)
  have hpq : ∀ j, 0 ≤ j → j < S → (fun j => decide (0 < lo j)) j = !((fun j => decide (lo' j = 0)) j) := fun j j0 j1 => by
    show decide (0 < lo j) = !(decide (lo' j = 0))
    have s := hs j j0 j1
    rw [← e1 j j0 j1, ← decide_not]
    exact decide_eq_decide.mpr (by omega)
  have fn : ∀ f : Int → Int, dS (fun j => decide (lo' j = 0)) S S = (zc (fun j => decide (0 < lo j)) 0 S) ∧ ∀ t, 0 ≤ t → t < (zc (fun j => decide (0 < lo j)) 0 S) → dA (fun j => decide (lo' j = 0)) cNo f S S t = cmp (fun j => decide (0 < lo j)) f S t := fun f => dA_fin (fun j => decide (lo' j = 0)) (fun j => decide (0 < lo j)) cNo f f S hS0 hpq cNo_n (fun g k _ _ _ e => e)
  have zl := zc_le (fun j => decide (0 < lo j)) 0 S hS0
  have src : ∀ n, 0 ≤ n → n < (zc (fun j => decide (0 < lo j)) 0 S) → ∃ x, 0 ≤ x ∧ x < S ∧ 0 < lo x ∧ (mix (fun j => (cmp (fun j => decide (0 < lo j)) lo S) j - 1) (cmp (fun j => decide (0 < lo j)) lo S) (zc (fun j => decide (0 < lo j)) 0 S)) n = lo x - 1 ∧ (mix (fun j => (cmp (fun j => decide (0 < lo j)) hi S) j - 1) (cmp (fun j => decide (0 < lo j)) hi S) (zc (fun j => decide (0 < lo j)) 0 S)) n = hi x - 1 ∧ ∀ v, cmp (fun j => decide (0 < lo j)) v S n = v x := fun n n0 n1 => by
    obtain ⟨x, x0, x1, xq, xv⟩ := cmp_src (fun j => decide (0 < lo j)) S hS0 n n0 n1
    refine ⟨x, x0, x1, of_decide_eq_true xq, ?_, ?_, xv⟩
    · rw [mix_lt _ _ _ _ n0 n1]
      show cmp (fun j => decide (0 < lo j)) lo S n - 1 = _
      rw [xv]
    · rw [mix_lt _ _ _ _ n0 n1]
      show cmp (fun j => decide (0 < lo j)) hi S n - 1 = _
      rw [xv]
  have ew : ∀ (f : Int → Int) (v : Int) (j : Int), 0 ≤ j → j < L → upZ (shf f L) (L - 1) v j = if j = L - 1 then v else f (j + 1) := fun f v j j0 j1 => by
    unfold upZ
    split
    · rfl
    · exact shf_in j0 (by omega)
  rw [show L - 1 + 1 = L by omega]
  refine ⟨(fn lo').1, ⟨⟨by omega, by omega⟩, ⟨zl.1, by omega⟩, fun j j0 j1 => ?_, fun n n0 n1 => ?_⟩, fun n n0 n1 => ?_, fun j j0 j1 => ?_, hl, fun j j0 j1 => ?_, fun j j0 j1 => ?_, fun n n0 n1 => ?_, fun n n0 n1 => ?_, fun n n0 n1 => ?_, fun n n0 n1 => ?_⟩
  · rw [ew _ _ j j0 j1]
    split
    · exact hf _ (by omega) (by omega)
    · exact hf _ (by omega) (by omega)
  · obtain ⟨x, x0, x1, xq, a1, a2, xv⟩ := src n n0 n1
    rw [a1, a2, xv, xv]
    obtain ⟨s1, s2, s3, s4, s5, s6, s7⟩ := hs x x0 x1
    have w := zs_shift (f := Dm) (L := L) (lo x - 1) (hi x) (by omega) (by omega) (by omega)
    have w2 := zs_eq (f := upZ (shf Dm L) (L - 1) (Dm 0)) (g := shf Dm L) (lo x - 1) (hi x) (fun j j0 j1 => upZ_n (by omega))
    rw [show hi x - 1 + 1 = hi x by omega, w2, w, show lo x - 1 + 1 = lo x by omega]
    omega
  · obtain ⟨x, x0, x1, xq, a1, a2, xv⟩ := src n n0 n1
    rw [xv]
    have := hd x x0 x1
    omega
  · rw [ew _ _ j j0 j1]
    split
    · exact hk _ (by omega) (by omega)
    · exact hk _ (by omega) (by omega)
  · rw [ew _ _ j j0 j1, ew _ _ j j0 j1]
    split
    · exact k0
    · exact eK _ (by omega) (by omega)
  · rw [ew _ _ j j0 j1, ew _ _ j j0 j1]
    split
    · exact e0
    · exact eD _ (by omega) (by omega)
  · obtain ⟨x, x0, x1, xq, a1, a2, xv⟩ := src n n0 n1
    rw [a1, (fn lo').1, mix_lt _ _ _ _ n0 n1]
    show _ = if 0 < (dA (fun j => decide (lo' j = 0)) cNo lo' S S) n then (dA (fun j => decide (lo' j = 0)) cNo lo' S S) n - 1 else (dA (fun j => decide (lo' j = 0)) cNo lo' S S) n
    rw [(fn lo').2 n n0 n1, xv, ← e1 x x0 x1, if_pos xq]
  · obtain ⟨x, x0, x1, xq, a1, a2, xv⟩ := src n n0 n1
    rw [a2, (fn lo').1, mix_lt _ _ _ _ n0 n1]
    show _ = (dA (fun j => decide (lo' j = 0)) cNo hi' S S) n - 1
    rw [(fn hi').2 n n0 n1, xv, ← e2 x x0 x1]
  · obtain ⟨x, x0, x1, xq, a1, a2, xv⟩ := src n n0 n1
    rw [(fn su').2 n n0 n1, xv, xv]
    exact e3 x x0 x1
  · obtain ⟨x, x0, x1, xq, a1, a2, xv⟩ := src n n0 n1
    rw [(fn db').2 n n0 n1, xv, xv]
    exact e4 x x0 x1
/-! ===== answers ===== -/
theorem tl_eq {S : Int} {lo hi su db lo' hi' su' db' : Int → Int} (e1 : eqI S lo lo') (e2 : eqI S hi hi') (e3 : eqI S su su') (e4 : eqI S db db') (X : Int → Int → Int) : ∀ n : Nat, (n : Int) ≤ S → tlN X lo hi su db n = tlN X lo' hi' su' db' n
  | 0, _ => rfl
  | n + 1, h => by
    show tel (tlN X lo hi su db n) (lo n) (hi n) (su n) (db n) = tel (tlN X lo' hi' su' db' n) (lo' n) (hi' n) (su' n) (db' n)
    rw [tl_eq e1 e2 e3 e4 X n (by omega), e1 n (by omega) (by omega), e2 n (by omega) (by omega), e3 n (by omega) (by omega), e4 n (by omega) (by omega)]
theorem Rel.bgne {t : Int} {K Dm : Int → Int} {L : Int} {lo hi su db : Int → Int} {S li : Int} {K' Dm' lo' hi' su' db' : Int → Int} (r : Rel t K Dm L lo hi su db S li K' Dm' lo' hi' su' db') (X : Int → Int → Int) : bgn X L lo' hi' su' db' S = bgn X L lo hi su db S := by
  obtain ⟨⟨⟨hL0, hL⟩, ⟨hS0, hS⟩, hf, hs⟩, hd, hk, hl, eK, eD, e1, e2, e3, e4⟩ := id r
  exact (tl_eq e1 e2 e3 e4 _ S.toNat (by omega)).symm
theorem Rel.bhde {t : Int} {K Dm : Int → Int} {L : Int} {lo hi su db : Int → Int} {S li : Int} {K' Dm' lo' hi' su' db' : Int → Int} (r : Rel t K Dm L lo hi su db S li K' Dm' lo' hi' su' db') (X : Int → Int → Int) (a b : Int) (a0 : 0 ≤ a) (b1 : b < L) : bhd X Dm' L lo' hi' su' db' S a b = bhd X Dm L lo hi su db S a b := by
  unfold bhd
  rw [r.bgne X, r.zse a (b + 1) a0 (by omega)]
/-- the two matrices -/
theorem Rel.mat {t : Int} {K Dm : Int → Int} {L : Int} {lo hi su db : Int → Int} {S li : Int} {K' Dm' lo' hi' su' db' : Int → Int} (r : Rel t K Dm L lo hi su db S li K' Dm' lo' hi' su' db') (M X : Int → Int → Int) : eqL L (wg L lo hi su db M S) (fw (bgn X L lo' hi' su' db' S) L (L + 1)) := by
  rw [r.bgne X]
  exact wg_fw r.1 M X
theorem eqL_nDry {L : Int} {X Y : Int → Int → Int} (h : eqL L X Y) (li : Int) : nDry X li L = nDry Y li L := zc_eq 0 L (fun j j0 j1 => by rw [h j (j + 1) j0 (by omega) (by omega) (by omega)])
theorem eqL_nDamp {L : Int} {X Y : Int → Int → Int} (h : eqL L X Y) (li : Int) : nDamp X li L = nDamp Y li L := zc_eq 0 L (fun j j0 j1 => by rw [h (j + 1) j (by omega) (by omega) j0 (by omega)])
theorem agN_eq {b c : Int → Int → Bool} : ∀ n : Nat, (∀ x y : Int, 0 ≤ x → x ≤ n → 0 ≤ y → y ≤ n → b x y = c x y) → agN b n = agN c n
  | 0, _ => rfl
  | n + 1, h => by
    have e := agN_eq (b := b) (c := c) n (fun x y x0 x1 y0 y1 => h x y x0 (by omega) y0 (by omega))
    have g : 0 ≤ agN c n ∧ agN c n < (n : Int) + 1 := by
      have g := ag_in c ((n : Int) + 1) (by omega)
      unfold ag at g
      rw [show ((n : Int) + 1 - 1).toNat = n by omega] at g
      exact g
    unfold agN
    rw [e, h ((n : Int) + 1) (agN c n) (by omega) (by omega) g.1 (by omega)]
theorem ag_eq {b c : Int → Int → Bool} {L : Int} (hL : 1 ≤ L) (h : ∀ x y, 0 ≤ x → x < L → 0 ≤ y → y < L → b x y = c x y) : ag b L = ag c L := agN_eq _ (fun x y x0 x1 y0 y1 => h x y x0 (by omega) y0 (by omega))
theorem Rel.worst {t : Int} {K Dm : Int → Int} {L : Int} {lo hi su db : Int → Int} {S li : Int} {K' Dm' lo' hi' su' db' : Int → Int} (r : Rel t K Dm L lo hi su db S li K' Dm' lo' hi' su' db') (M X : Int → Int → Int) (h0 : 0 < L) : ag (fun x y => decide ((wg L lo hi su db M S) y (y + 1) < (wg L lo hi su db M S) x (x + 1))) L = ag (fun x y => decide ((fw (bgn X L lo' hi' su' db' S) L (L + 1)) y (y + 1) < (fw (bgn X L lo' hi' su' db' S) L (L + 1)) x (x + 1))) L := ag_eq h0 (fun x y x0 x1 y0 y1 => by
  rw [r.mat M X y (y + 1) y0 (by omega) (by omega) (by omega), r.mat M X x (x + 1) x0 (by omega) (by omega) (by omega)])
theorem Rel.behind {t : Int} {K Dm : Int → Int} {L : Int} {lo hi su db : Int → Int} {S li : Int} {K' Dm' lo' hi' su' db' : Int → Int} (r : Rel t K Dm L lo hi su db S li K' Dm' lo' hi' su' db') (M X : Int → Int → Int) (a b : Int) (a0 : 0 ≤ a) (ab : a ≤ b) (b1 : b < L) : dIf (wg L lo hi su db M S) Dm L a b = dNow (bhd X Dm' L lo' hi' su' db' S a b) L := by
  rw [r.bhde X a b a0 b1]
  exact dIf_dNow r.1 M X a b a0 ab b1
theorem Rel.best {t : Int} {K Dm : Int → Int} {L : Int} {lo hi su db : Int → Int} {S li : Int} {K' Dm' lo' hi' su' db' : Int → Int} (r : Rel t K Dm L lo hi su db S li K' Dm' lo' hi' su' db') (M X : Int → Int → Int) (h0 : 0 < L) : ag (fun x y => decide (dIf (wg L lo hi su db M S) Dm L x x < dIf (wg L lo hi su db M S) Dm L y y)) L = ag (fun x y => decide (dNow (bhd X Dm' L lo' hi' su' db' S x x) L < dNow (bhd X Dm' L lo' hi' su' db' S y y) L)) L := ag_eq h0 (fun x y x0 x1 y0 y1 => by
  rw [r.behind M X x x x0 (Int.le_refl _) x1, r.behind M X y y y0 (Int.le_refl _) y1])
theorem Rel.bestV {t : Int} {K Dm : Int → Int} {L : Int} {lo hi su db : Int → Int} {S li : Int} {K' Dm' lo' hi' su' db' : Int → Int} (r : Rel t K Dm L lo hi su db S li K' Dm' lo' hi' su' db') (X : Int → Int → Int) : ∀ a, 0 ≤ a → a < L → -100000 ≤ dNow (bhd X Dm' L lo' hi' su' db' S a a) L ∧ dNow (bhd X Dm' L lo' hi' su' db' S a a) L ≤ 100000 := fun a a0 a1 => by
  obtain ⟨⟨⟨hL0, hL⟩, ⟨hS0, hS⟩, hf, hs⟩, hd, hk, hl, eK, eD, e1, e2, e3, e4⟩ := id r
  rw [← r.behind X X a a a0 (Int.le_refl _) a1]
  exact dIf_in hL0 hL hf (Wok_B hL hf (wg_ok r.1 X S hS0 (Int.le_refl _))) a a a0 (Int.le_refl _) a1
theorem dgN_eq {f g : Int → Int64 → Int64} (d : Int64) : ∀ n : Nat, (∀ j : Int, 0 ≤ j → j < n → ∀ x, f j x = g j x) → dgN f d n = dgN g d n
  | 0, _ => rfl
  | n + 1, h => by
    show f n (dgN f d n) = g n (dgN g d n)
    rw [dgN_eq d n (fun j j0 j1 => h j j0 (by omega)), h n (by omega) (by omega)]
theorem dg_eq {f g : Int → Int64 → Int64} (d : Int64) (i : Int) (h : ∀ j, 0 ≤ j → j < i → ∀ x, f j x = g j x) : dg f d i = dg g d i := dgN_eq d _ (fun j j0 j1 => h j j0 (by omega))
theorem dg_9 (L S dy li so sp a b c : Int) (d : Int64) : dg (fun j d => d31 d ((upZ (upZ (upZ (upZ (upZ (upZ (upZ (upZ (upZ (fun _ => 0) 0 L) 1 S) 2 dy) 3 li) 4 so) 5 sp) 6 a) 7 b) 8 c) j)) d 9 = d31 (d31 (d31 (d31 (d31 (d31 (d31 (d31 (d31 d L) S) dy) li) so) sp) a) b) c := rfl
theorem Rel.digest {t : Int} {K Dm : Int → Int} {L : Int} {lo hi su db : Int → Int} {S li : Int} {K' Dm' lo' hi' su' db' : Int → Int} (r : Rel t K Dm L lo hi su db S li K' Dm' lo' hi' su' db') (M X : Int → Int → Int) (dy so sp : Int) : dg (dgS lo' hi' su' db') (dg (dgL K' Dm' (fw (bgn X L lo' hi' su' db' S) L (L + 1))) (dg (fun j d => d31 d ((upZ (upZ (upZ (upZ (upZ (upZ (upZ (upZ (upZ (fun _ => 0) 0 L) 1 S) 2 dy) 3 li) 4 so) 5 sp) 6 (dNow (fw (bgn X L lo' hi' su' db' S) L (L + 1)) L)) 7 (nDry (fw (bgn X L lo' hi' su' db' S) L (L + 1)) li L)) 8 (nDamp (fw (bgn X L lo' hi' su' db' S) L (L + 1)) li L)) j)) 1907 9) L) S =
    dg (dgS lo hi su db) (dg (dgL K Dm (wg L lo hi su db M S)) (((((((((1907 * 31 + ((zI L).toInt64)) * 31 + ((zI S).toInt64)) * 31 + ((zI dy).toInt64)) * 31 + ((zI li).toInt64)) * 31 + ((zI so).toInt64)) * 31 + ((zI sp).toInt64)) * 31 + ((zI (dNow (wg L lo hi su db M S) L)).toInt64)) * 31 + ((zI (nDry (wg L lo hi su db M S) li L)).toInt64)) * 31 + ((zI (nDamp (wg L lo hi su db M S) li L)).toInt64)) L) S := by
  obtain ⟨⟨⟨hL0, hL⟩, ⟨hS0, hS⟩, hf, hs⟩, hd, hk, hl, eK, eD, e1, e2, e3, e4⟩ := id r
  have em := r.mat M X
  rw [dg_9, ← eqL_dNow em, ← eqL_nDry em, ← eqL_nDamp em]
  rw [dg_eq (f := dgS lo' hi' su' db') (g := dgS lo hi su db) _ S (fun j j0 j1 x => by unfold dgS; rw [e1 j j0 j1, e2 j j0 j1, e3 j j0 j1, e4 j j0 j1])]
  rw [dg_eq (f := dgL K' Dm' (fw (bgn X L lo' hi' su' db' S) L (L + 1))) (g := dgL K Dm (wg L lo hi su db M S)) _ L (fun j j0 j1 x => by unfold dgL; rw [eK j j0 j1, eD j j0 j1, em j (j + 1) j0 (by omega) (by omega) (by omega), em (j + 1) j (by omega) (by omega) j0 (by omega)])]
  rfl
