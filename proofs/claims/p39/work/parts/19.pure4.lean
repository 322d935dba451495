/-! ===== plain words of the reference: its matrix ===== -/
def bnd (X : Int → Int → Int) (a b v : Int) : Int → Int → Int := up2 X a b (min (X a b) v)
theorem bnd_at (X : Int → Int → Int) (a b v x y : Int) : bnd X a b v x y = if x = a ∧ y = b then min (X a b) v else X x y := rfl
def ini : Int → Int → Int := fun a b => if a = b then 0 else 1000000
def egN (X : Int → Int → Int) : Nat → Int → Int → Int
  | 0 => X
  | n + 1 => bnd (bnd (egN X n) n ((n : Int) + 1) 40) ((n : Int) + 1) n 0
def eg (X : Int → Int → Int) (i : Int) : Int → Int → Int := egN X i.toNat
theorem eg_0 (X : Int → Int → Int) : eg X 0 = X := rfl
theorem eg_up (X : Int → Int → Int) (i : Int) (h : 0 ≤ i) : eg X (i + 1) = bnd (bnd (eg X i) i (i + 1) 40) (i + 1) i 0 := by
  obtain ⟨n, rfl⟩ := Int.eq_ofNat_of_zero_le h
  unfold eg
  rw [show ((n : Int) + 1).toNat = n + 1 by omega, show ((n : Int)).toNat = n by omega]
  rfl
def tel (X : Int → Int → Int) (a b u v : Int) : Int → Int → Int := bnd (bnd X a (b + 1) (u + v)) (b + 1) a (v - u)
def tlN (X : Int → Int → Int) (lo hi su db : Int → Int) : Nat → Int → Int → Int
  | 0 => X
  | n + 1 => tel (tlN X lo hi su db n) (lo n) (hi n) (su n) (db n)
def tl (X : Int → Int → Int) (lo hi su db : Int → Int) (i : Int) : Int → Int → Int := tlN X lo hi su db i.toNat
theorem tl_0 (X : Int → Int → Int) (lo hi su db : Int → Int) : tl X lo hi su db 0 = X := rfl
theorem tl_up (X : Int → Int → Int) (lo hi su db : Int → Int) (i : Int) (h : 0 ≤ i) : tl X lo hi su db (i + 1) = tel (tl X lo hi su db i) (lo i) (hi i) (su i) (db i) := by
  obtain ⟨n, rfl⟩ := Int.eq_ofNat_of_zero_le h
  unfold tl
  rw [show ((n : Int) + 1).toNat = n + 1 by omega, show ((n : Int)).toNat = n by omega]
  rfl
/-- what begin leaves -/
def bgn (X : Int → Int → Int) (L : Int) (lo hi su db : Int → Int) (S : Int) : Int → Int → Int := tl (eg (matA ini X L) L) lo hi su db S
def fwg (X : Int → Int → Int) (k : Int) : Int → Int → Int := fun a b => min (X a b) (X a k + X k b)
def fwN (X : Int → Int → Int) (L : Int) : Nat → Int → Int → Int
  | 0 => X
  | n + 1 => matA (fwg (fwN X L n) n) (fwN X L n) L
def fw (X : Int → Int → Int) (L i : Int) : Int → Int → Int := fwN X L i.toNat
theorem fw_0 (X : Int → Int → Int) (L : Int) : fw X L 0 = X := rfl
theorem fw_up (X : Int → Int → Int) (L i : Int) (h : 0 ≤ i) : fw X L (i + 1) = matA (fwg (fw X L i) i) (fw X L i) L := by
  obtain ⟨n, rfl⟩ := Int.eq_ofNat_of_zero_le h
  unfold fw
  rw [show ((n : Int) + 1).toNat = n + 1 by omega, show ((n : Int)).toNat = n by omega]
  rfl
/-- entries that what is so keeps to, the diagonal 0 -/
def Fok (L : Int) (f : Int → Int) (X : Int → Int → Int) : Prop :=
  (∀ x y, 0 ≤ x → x ≤ L → 0 ≤ y → y ≤ L → zs f 0 y - zs f 0 x ≤ X x y ∧ X x y ≤ 1000000) ∧ ∀ x, 0 ≤ x → x ≤ L → X x x = 0
theorem Fok_B {L : Int} {f : Int → Int} {X : Int → Int → Int} (hL : L ≤ 12) (hf : ∀ j, 0 ≤ j → j < L → 0 ≤ f j ∧ f j ≤ 40) (h : Fok L f X) (x y : Int) (h0 : 0 ≤ x) (h1 : x ≤ L) (h2 : 0 ≤ y) (h3 : y ≤ L) : -480 ≤ X x y ∧ X x y ≤ 1000000 := by
  have a := h.1 x y h0 h1 h2 h3
  have b := zs_bnd hf 0 x (by omega) h0 h1
  have c := zs_bnd hf 0 y (by omega) h2 h3
  omega
theorem Fok_ini {L : Int} {f : Int → Int} (hL : L ≤ 12) (hf : ∀ j, 0 ≤ j → j < L → 0 ≤ f j ∧ f j ≤ 40) (X : Int → Int → Int) : Fok L f (matA ini X L) := by
  refine ⟨fun x y x0 x1 y0 y1 => ?_, fun x x0 x1 => ?_⟩
  · rw [matA_in _ _ _ _ _ x0 x1 y0 y1]
    have b := zs_bnd hf 0 x (by omega) x0 x1
    have c := zs_bnd hf 0 y (by omega) y0 y1
    unfold ini
    by_cases h : x = y
    · subst h
      rw [if_pos rfl]
      omega
    · rw [if_neg h]
      omega
  · rw [matA_in _ _ _ _ _ x0 x1 x0 x1]
    exact if_pos rfl
theorem Fok_bnd {L : Int} {f : Int → Int} {X : Int → Int → Int} (h : Fok L f X) (a b v : Int) (hd : zs f 0 b - zs f 0 a ≤ v) (hab : a ≠ b) : Fok L f (bnd X a b v) := by
  obtain ⟨h1, h2⟩ := h
  refine ⟨fun x y x0 x1 y0 y1 => ?_, fun x x0 x1 => ?_⟩
  · rw [bnd_at]
    have e := h1 x y x0 x1 y0 y1
    by_cases q : x = a ∧ y = b
    · obtain ⟨rfl, rfl⟩ := q
      rw [if_pos ⟨rfl, rfl⟩]
      omega
    · rw [if_neg q]
      exact e
  · rw [bnd_at, if_neg (by omega)]
    exact h2 x x0 x1
theorem Fok_tel {L : Int} {f : Int → Int} {X : Int → Int → Int} (h : Fok L f X) (a b u v : Int) (a0 : 0 ≤ a) (ab : a ≤ b) (h1 : zs f a (b + 1) ≤ u + v) (h2 : u - v ≤ zs f a (b + 1)) : Fok L f (tel X a b u v) := by
  have e := zs_cat f 0 a (b + 1) a0 (by omega)
  exact Fok_bnd (Fok_bnd h _ _ _ (by omega) (by omega)) _ _ _ (by omega) (by omega)
theorem Fok_eg {L : Int} {f : Int → Int} (hf : ∀ j, 0 ≤ j → j < L → 0 ≤ f j ∧ f j ≤ 40) {X : Int → Int → Int} (h : Fok L f X) (i : Int) (h0 : 0 ≤ i) (h1 : i ≤ L) : Fok L f (eg X i) := by
  obtain ⟨n, rfl⟩ := Int.eq_ofNat_of_zero_le h0
  induction n with
  | zero => exact h
  | succ n ih =>
    rw [show ((n + 1 : Nat) : Int) = (n : Int) + 1 by omega] at h1 ⊢
    rw [eg_up _ _ (by omega)]
    have e := zs_up f 0 (n : Int) (by omega)
    have e2 := hf (n : Int) (by omega) (by omega)
    exact Fok_bnd (Fok_bnd (ih (by omega) (by omega)) _ _ _ (by omega) (by omega)) _ _ _ (by omega) (by omega)
theorem Fok_tl {Dm : Int → Int} {L : Int} {lo hi su db : Int → Int} {S : Int} (ok : okS Dm L lo hi su db S) {X : Int → Int → Int} (h : Fok L Dm X) (i : Int) (h0 : 0 ≤ i) (h1 : i ≤ S) : Fok L Dm (tl X lo hi su db i) := by
  obtain ⟨hL, hS, hf, hs⟩ := ok
  obtain ⟨n, rfl⟩ := Int.eq_ofNat_of_zero_le h0
  induction n with
  | zero => exact h
  | succ n ih =>
    rw [show ((n + 1 : Nat) : Int) = (n : Int) + 1 by omega] at h1 ⊢
    rw [tl_up _ _ _ _ _ _ (by omega)]
    obtain ⟨s1, s2, s3, s4, s5, s6, s7⟩ := hs n (by omega) (by omega)
    exact Fok_tel (ih (by omega) (by omega)) _ _ _ _ s1 s2 (by omega) (by omega)
theorem Fok_bgn {Dm : Int → Int} {L : Int} {lo hi su db : Int → Int} {S : Int} (ok : okS Dm L lo hi su db S) (X : Int → Int → Int) : Fok L Dm (bgn X L lo hi su db S) :=
  Fok_tl ok (Fok_eg ok.2.2.1 (Fok_ini ok.1.2 ok.2.2.1 X) L ok.1.1 (Int.le_refl _)) S ok.2.1.1 (Int.le_refl _)
theorem Fok_fw {L : Int} {f : Int → Int} {X : Int → Int → Int} (h : Fok L f X) (i : Int) (h0 : 0 ≤ i) (h1 : i ≤ L + 1) : Fok L f (fw X L i) := by
  obtain ⟨n, rfl⟩ := Int.eq_ofNat_of_zero_le h0
  induction n with
  | zero => exact h
  | succ n ih =>
    rw [show ((n + 1 : Nat) : Int) = (n : Int) + 1 by omega] at h1 ⊢
    rw [fw_up _ _ _ (by omega)]
    obtain ⟨i1, i2⟩ := ih (by omega) (by omega)
    refine ⟨fun x y x0 x1 y0 y1 => ?_, fun x x0 x1 => ?_⟩
    · rw [matA_in _ _ _ _ _ x0 x1 y0 y1]
      unfold fwg
      have e1 := i1 x y x0 x1 y0 y1
      have e2 := i1 x n x0 x1 (by omega) (by omega)
      have e3 := i1 n y (by omega) (by omega) y0 y1
      omega
    · rw [matA_in _ _ _ _ _ x0 x1 x0 x1]
      unfold fwg
      have e1 := i2 x x0 x1
      have e2 := i1 x n x0 x1 (by omega) (by omega)
      have e3 := i1 n x (by omega) (by omega) x0 x1
      omega
/-! ===== plain words of the reference: samples that go, from above ===== -/
theorem shB_up (f : Int → Int) (a i : Int) (h : a ≤ i) : shA f a (i + 1 + 1) = upZ (shA f a (i + 1)) i (shA f a (i + 1) (i + 1)) := by
  have e := shA_up f a (i + 1) (by omega)
  rw [show i + 1 - 1 = i by omega] at e
  exact e
theorem shf_up2 (f : Int → Int) (i : Int) (h : 0 ≤ i) : shf f (i + 1 + 1) = upZ (shf f (i + 1)) i (shf f (i + 1) (i + 1)) := by
  have e := shf_up f (i + 1) (by omega)
  rw [show i + 1 - 1 = i by omega] at e
  exact e
/-- how many are left behind n steps from above; what an array is then (c: cut a value at an index that stays) -/
def dnS (p : Int → Bool) (S : Int) : Nat → Int
  | 0 => S
  | n + 1 => if p (S - 1 - n) then dnS p S n - 1 else dnS p S n
def dnA (p : Int → Bool) (c : (Int → Int) → Int → (Int → Int)) (f : Int → Int) (S : Int) : Nat → Int → Int
  | 0 => f
  | n + 1 => if p (S - 1 - n) then shA (dnA p c f S n) (S - 1 - n) (dnS p S n - 1 + 1) else c (dnA p c f S n) (S - 1 - n)
def dS (p : Int → Bool) (S i : Int) : Int := dnS p S i.toNat
def dA (p : Int → Bool) (c : (Int → Int) → Int → (Int → Int)) (f : Int → Int) (S i : Int) : Int → Int := dnA p c f S i.toNat
theorem dS_0 (p : Int → Bool) (S : Int) : dS p S 0 = S := rfl
theorem dA_0 (p : Int → Bool) (c : (Int → Int) → Int → (Int → Int)) (f : Int → Int) (S : Int) : dA p c f S 0 = f := rfl
theorem dS_t (p : Int → Bool) (S i : Int) (h : 0 ≤ i) (e : p (S - 1 - i) = true) : dS p S (i + 1) = dS p S i - 1 := by
  obtain ⟨n, rfl⟩ := Int.eq_ofNat_of_zero_le h
  unfold dS
  rw [show ((n : Int) + 1).toNat = n + 1 by omega, show ((n : Int)).toNat = n by omega]
  show (if p (S - 1 - n) then _ else _) = _
  rw [if_pos e]
theorem dS_f (p : Int → Bool) (S i : Int) (h : 0 ≤ i) (e : p (S - 1 - i) = false) : dS p S (i + 1) = dS p S i := by
  obtain ⟨n, rfl⟩ := Int.eq_ofNat_of_zero_le h
  unfold dS
  rw [show ((n : Int) + 1).toNat = n + 1 by omega, show ((n : Int)).toNat = n by omega]
  show (if p (S - 1 - n) then _ else _) = _
  rw [if_neg (by rw [e]; decide)]
theorem dA_t (p : Int → Bool) (c : (Int → Int) → Int → (Int → Int)) (f : Int → Int) (S i : Int) (h : 0 ≤ i) (e : p (S - 1 - i) = true) : dA p c f S (i + 1) = shA (dA p c f S i) (S - 1 - i) (dS p S i - 1 + 1) := by
  obtain ⟨n, rfl⟩ := Int.eq_ofNat_of_zero_le h
  unfold dA dS
  rw [show ((n : Int) + 1).toNat = n + 1 by omega, show ((n : Int)).toNat = n by omega]
  show (if p (S - 1 - n) then _ else _) = _
  rw [if_pos e]
theorem dA_f (p : Int → Bool) (c : (Int → Int) → Int → (Int → Int)) (f : Int → Int) (S i : Int) (h : 0 ≤ i) (e : p (S - 1 - i) = false) : dA p c f S (i + 1) = c (dA p c f S i) (S - 1 - i) := by
  obtain ⟨n, rfl⟩ := Int.eq_ofNat_of_zero_le h
  unfold dA
  rw [show ((n : Int) + 1).toNat = n + 1 by omega, show ((n : Int)).toNat = n by omega]
  show (if p (S - 1 - n) then _ else _) = _
  rw [if_neg (by rw [e]; decide)]
theorem dS_in (p : Int → Bool) (S i : Int) (h : 0 ≤ i) : S - i ≤ dS p S i ∧ dS p S i ≤ S := by
  obtain ⟨n, rfl⟩ := Int.eq_ofNat_of_zero_le h
  induction n with
  | zero => rw [show ((0 : Nat) : Int) = 0 by omega, dS_0]; omega
  | succ n ih =>
    have := ih (by omega)
    rw [show ((n + 1 : Nat) : Int) = (n : Int) + 1 by omega]
    cases e : p (S - 1 - n) with
    | true => rw [dS_t p S n (by omega) e]; omega
    | false => rw [dS_f p S n (by omega) e]; omega
/-- what lies below is untouched yet -/
theorem dA_lt (p : Int → Bool) (c : (Int → Int) → Int → (Int → Int)) (hc : ∀ g k j, j < k → c g k j = g j) (f : Int → Int) (S i : Int) (h : 0 ≤ i) : ∀ j, j < S - i → dA p c f S i j = f j := by
  obtain ⟨n, rfl⟩ := Int.eq_ofNat_of_zero_le h
  induction n with
  | zero => intro j _; rfl
  | succ n ih =>
    intro j hj
    rw [show ((n + 1 : Nat) : Int) = (n : Int) + 1 by omega] at hj ⊢
    cases e : p (S - 1 - n) with
    | true =>
      rw [dA_t p c f S n (by omega) e]
      unfold shA
      rw [if_neg (by omega)]
      exact ih (by omega) j (by omega)
    | false =>
      rw [dA_f p c f S n (by omega) e, hc _ _ _ (by omega)]
      exact ih (by omega) j (by omega)
def cNo : (Int → Int) → Int → (Int → Int) := fun g _ => g
def cCut (q : Int → Bool) (a : Int) : (Int → Int) → Int → (Int → Int) := fun g k => if q k then upZ g k (g k - a) else g
theorem cNo_lt (g : Int → Int) (k j : Int) (_ : j < k) : cNo g k j = g j := rfl
theorem cCut_lt (q : Int → Bool) (a : Int) (g : Int → Int) (k j : Int) (h : j < k) : cCut q a g k j = g j := by
  unfold cCut
  split
  · exact upZ_n (by omega)
  · rfl
theorem cCut_t (q : Int → Bool) (a : Int) (g : Int → Int) (k : Int) (e : q k = true) : cCut q a g k = upZ g k (g k - a) := by
  unfold cCut
  rw [if_pos e]
theorem cCut_f (q : Int → Bool) (a : Int) (g : Int → Int) (k : Int) (e : q k = false) : cCut q a g k = g := by
  unfold cCut
  rw [if_neg (by rw [e]; decide)]
/-- what held of all holds of all that are left -/
theorem dA_all (p : Int → Bool) (f : Int → Int) (S : Int) (B : Int → Prop) (h : ∀ j, 0 ≤ j → j < S → B (f j)) (i : Int) (h0 : 0 ≤ i) (h1 : i ≤ S) : ∀ j, 0 ≤ j → j < dS p S i → B (dA p cNo f S i j) := by
  obtain ⟨n, rfl⟩ := Int.eq_ofNat_of_zero_le h0
  induction n with
  | zero => exact h
  | succ n ih =>
    have ih := ih (by omega) (by omega)
    rw [show ((n + 1 : Nat) : Int) = (n : Int) + 1 by omega] at h1 ⊢
    intro j j0 j1
    cases e : p (S - 1 - n) with
    | true =>
      rw [dS_t p S n (by omega) e] at j1
      rw [dA_t p cNo f S n (by omega) e]
      unfold shA
      split
      · exact ih _ (by omega) (by omega)
      · exact ih _ j0 (by omega)
    | false =>
      rw [dS_f p S n (by omega) e] at j1
      rw [dA_f p cNo f S n (by omega) e]
      exact ih j j0 j1
/-- two matrices with the same entries between the seams -/
def eqL (L : Int) (X Y : Int → Int → Int) : Prop := ∀ a b, 0 ≤ a → a ≤ L → 0 ≤ b → b ≤ L → X a b = Y a b
theorem eqL_matA {L : Int} {g g' X Y : Int → Int → Int} (h : eqL L g g') : eqL L (matA g X L) (matA g' Y L) := fun a b a0 a1 b0 b1 => by
  rw [matA_in _ _ _ _ _ a0 a1 b0 b1, matA_in _ _ _ _ _ a0 a1 b0 b1]
  exact h a b a0 a1 b0 b1
theorem eqL_bnd {L : Int} {X Y : Int → Int → Int} (h : eqL L X Y) (a b v : Int) (a0 : 0 ≤ a) (a1 : a ≤ L) (b0 : 0 ≤ b) (b1 : b ≤ L) : eqL L (bnd X a b v) (bnd Y a b v) := fun x y x0 x1 y0 y1 => by
  rw [bnd_at, bnd_at, h a b a0 a1 b0 b1, h x y x0 x1 y0 y1]
theorem eqL_tel {L : Int} {X Y : Int → Int → Int} (h : eqL L X Y) (a b u v : Int) (a0 : 0 ≤ a) (ab : a ≤ b) (b1 : b < L) : eqL L (tel X a b u v) (tel Y a b u v) :=
  eqL_bnd (eqL_bnd h _ _ _ a0 (by omega) (by omega) (by omega)) _ _ _ (by omega) (by omega) a0 (by omega)
theorem eqL_eg {L : Int} {X Y : Int → Int → Int} (h : eqL L X Y) (i : Int) (h0 : 0 ≤ i) (h1 : i ≤ L) : eqL L (eg X i) (eg Y i) := by
  obtain ⟨n, rfl⟩ := Int.eq_ofNat_of_zero_le h0
  induction n with
  | zero => exact h
  | succ n ih =>
    rw [show ((n + 1 : Nat) : Int) = (n : Int) + 1 by omega] at h1 ⊢
    rw [eg_up _ _ (by omega), eg_up _ _ (by omega)]
    exact eqL_bnd (eqL_bnd (ih (by omega) (by omega)) _ _ _ (by omega) (by omega) (by omega) (by omega)) _ _ _ (by omega) (by omega) (by omega) (by omega)
theorem eqL_tl {Dm : Int → Int} {L : Int} {lo hi su db : Int → Int} {S : Int} (ok : okS Dm L lo hi su db S) {X Y : Int → Int → Int} (h : eqL L X Y) (i : Int) (h0 : 0 ≤ i) (h1 : i ≤ S) : eqL L (tl X lo hi su db i) (tl Y lo hi su db i) := by
  obtain ⟨hL, hS, hf, hs⟩ := ok
  obtain ⟨n, rfl⟩ := Int.eq_ofNat_of_zero_le h0
  induction n with
  | zero => exact h
  | succ n ih =>
    rw [show ((n + 1 : Nat) : Int) = (n : Int) + 1 by omega] at h1 ⊢
    rw [tl_up _ _ _ _ _ _ (by omega), tl_up _ _ _ _ _ _ (by omega)]
    obtain ⟨s1, s2, s3, s4, s5, s6, s7⟩ := hs n (by omega) (by omega)
    exact eqL_tel (ih (by omega) (by omega)) _ _ _ _ s1 s2 s3
theorem eqL_bgn {Dm : Int → Int} {L : Int} {lo hi su db : Int → Int} {S : Int} (ok : okS Dm L lo hi su db S) (X Y : Int → Int → Int) : eqL L (bgn X L lo hi su db S) (bgn Y L lo hi su db S) :=
  eqL_tl ok (eqL_eg (eqL_matA (fun _ _ _ _ _ _ => rfl)) L ok.1.1 (Int.le_refl _)) S ok.2.1.1 (Int.le_refl _)
theorem eqL_fw {L : Int} {X Y : Int → Int → Int} (h : eqL L X Y) (i : Int) (h0 : 0 ≤ i) (h1 : i ≤ L + 1) : eqL L (fw X L i) (fw Y L i) := by
  obtain ⟨n, rfl⟩ := Int.eq_ofNat_of_zero_le h0
  induction n with
  | zero => exact h
  | succ n ih =>
    rw [show ((n + 1 : Nat) : Int) = (n : Int) + 1 by omega] at h1 ⊢
    rw [fw_up _ _ _ (by omega), fw_up _ _ _ (by omega)]
    have e := ih (by omega) (by omega)
    exact eqL_matA (fun a b a0 a1 b0 b1 => by
      unfold fwg
      rw [e a b a0 a1 b0 b1, e a n a0 a1 (by omega) (by omega), e n b (by omega) (by omega) b0 b1])
theorem zsN_eq {f g : Int → Int} (a : Int) : ∀ n : Nat, (∀ j, a ≤ j → j < a + n → f j = g j) → zsN f a n = zsN g a n
  | 0, _ => rfl
  | n + 1, h => by
    show zsN f a n + f (a + n) = zsN g a n + g (a + n)
    rw [zsN_eq a n (fun j j0 j1 => h j j0 (by omega)), h (a + n) (by omega) (by omega)]
theorem zs_eq {f g : Int → Int} (a b : Int) (h : ∀ j, a ≤ j → j < b → f j = g j) : zs f a b = zs g a b := zsN_eq a _ (fun j j0 j1 => h j j0 (by omega))
theorem eqL_dNow {L : Int} {X Y : Int → Int → Int} (h : eqL L X Y) : dNow X L = dNow Y L := zs_eq 0 L (fun j j0 j1 => by
  rw [h j (j + 1) j0 (by omega) (by omega) (by omega), h (j + 1) j (by omega) (by omega) j0 (by omega)])
/-- what behind leaves of the matrix -/
def bhd (X : Int → Int → Int) (Dm : Int → Int) (L : Int) (lo hi su db : Int → Int) (S a b : Int) : Int → Int → Int := fw (tel (bgn X L lo hi su db S) a b (zs Dm a (b + 1)) 0) L (L + 1)
theorem eqL_bhd {Dm : Int → Int} {L : Int} {lo hi su db : Int → Int} {S : Int} (ok : okS Dm L lo hi su db S) (X Y : Int → Int → Int) (a b : Int) (a0 : 0 ≤ a) (ab : a ≤ b) (b1 : b < L) : eqL L (bhd X Dm L lo hi su db S a b) (bhd Y Dm L lo hi su db S a b) :=
  eqL_fw (eqL_tel (eqL_bgn ok X Y) _ _ _ _ a0 ab b1) _ (by omega) (Int.le_refl _)
def bbN (X : Int → Int → Int) (Dm : Int → Int) (L : Int) (lo hi su db : Int → Int) (S : Int) : Nat → Int → Int → Int
  | 0 => X
  | n + 1 => bhd (bbN X Dm L lo hi su db S n) Dm L lo hi su db S n n
def bb (X : Int → Int → Int) (Dm : Int → Int) (L : Int) (lo hi su db : Int → Int) (S i : Int) : Int → Int → Int := bbN X Dm L lo hi su db S i.toNat
theorem bb_0 (X : Int → Int → Int) (Dm : Int → Int) (L : Int) (lo hi su db : Int → Int) (S : Int) : bb X Dm L lo hi su db S 0 = X := rfl
theorem bb_up (X : Int → Int → Int) (Dm : Int → Int) (L : Int) (lo hi su db : Int → Int) (S i : Int) (h : 0 ≤ i) : bb X Dm L lo hi su db S (i + 1) = bhd (bb X Dm L lo hi su db S i) Dm L lo hi su db S i i := by
  obtain ⟨n, rfl⟩ := Int.eq_ofNat_of_zero_le h
  unfold bb
  rw [show ((n : Int) + 1).toNat = n + 1 by omega, show ((n : Int)).toNat = n by omega]
  rfl
theorem Fok_bhd {Dm : Int → Int} {L : Int} {lo hi su db : Int → Int} {S : Int} (ok : okS Dm L lo hi su db S) (X : Int → Int → Int) (a b : Int) (a0 : 0 ≤ a) (ab : a ≤ b) (b1 : b < L) : Fok L Dm (bhd X Dm L lo hi su db S a b) :=
  Fok_fw (Fok_tel (Fok_bgn ok X) a b _ 0 a0 ab (by omega) (by omega)) _ (by have := ok.1.1; omega) (Int.le_refl _)
/-- a matrix with entries in bounds has a doubt in bounds -/
theorem dNow_in {L : Int} {X : Int → Int → Int} (h0 : 0 ≤ L) (hL : L ≤ 12) (h : ∀ a b, 0 ≤ a → a ≤ L → 0 ≤ b → b ≤ L → -480 ≤ X a b ∧ X a b ≤ 480) : -100000 ≤ dNow X L ∧ dNow X L ≤ 100000 := by
  have K := zs_rng (f := fun j => X j (j + 1) - -(X (j + 1) j)) (p := -1000) (q := 1000) L h0 (fun j j0 j1 => by
    have e1 := h j (j + 1) j0 (by omega) (by omega) (by omega)
    have e2 := h (j + 1) j (by omega) (by omega) j0 (by omega)
    omega)
  have e : dNow X L = zs (fun j => X j (j + 1) - -(X (j + 1) j)) 0 L := rfl
  omega
