/-! ===== plain words: what could be ===== -/
theorem zs_cat (f : Int → Int) (a b c : Int) (h1 : a ≤ b) (h2 : b ≤ c) : zs f a c = zs f a b + zs f b c := by
  suffices K : ∀ n : Nat, zs f a (b + n) = zs f a b + zs f b (b + n) by
    have := K (c - b).toNat
    rw [show b + ((c - b).toNat : Int) = c by omega] at this
    exact this
  intro n
  induction n with
  | zero => simp [zs_0]
  | succ n ih =>
    rw [show b + ((n + 1 : Nat) : Int) = (b + n) + 1 by omega, zs_up f a _ (by omega), zs_up f b _ (by omega), ih]
    omega
theorem zs_bnd {f : Int → Int} {L : Int} (hf : ∀ j, 0 ≤ j → j < L → 0 ≤ f j ∧ f j ≤ 40) (a b : Int) (h0 : 0 ≤ a) (h1 : a ≤ b) (h2 : b ≤ L) : 0 ≤ zs f a b ∧ zs f a b ≤ 40 * (b - a) := by
  suffices K : ∀ n : Nat, a + n ≤ L → 0 ≤ zs f a (a + n) ∧ zs f a (a + n) ≤ 40 * n by
    have := K (b - a).toNat (by omega)
    rw [show a + ((b - a).toNat : Int) = b by omega] at this
    omega
  intro n
  induction n with
  | zero => simp [zs_0]
  | succ n ih =>
    intro hn
    rw [show a + ((n + 1 : Nat) : Int) = (a + n) + 1 by omega, zs_up f a _ (by omega)]
    have e := hf (a + n) (by omega) (by omega)
    have := ih (by omega)
    omega
/-- the silo's cells make sense: 0 to 12 layers, 0 to 16 samples, dampness 0 to 40, each sample of some layers, its sum true within its doubt -/
def okS (Dm : Int → Int) (L : Int) (lo hi su db : Int → Int) (S : Int) : Prop :=
  (0 ≤ L ∧ L ≤ 12) ∧ (0 ≤ S ∧ S ≤ 16) ∧ (∀ j, 0 ≤ j → j < L → 0 ≤ Dm j ∧ Dm j ≤ 40) ∧
  ∀ n, 0 ≤ n → n < S → 0 ≤ lo n ∧ lo n ≤ hi n ∧ hi n < L ∧ 0 ≤ db n ∧ db n ≤ 320000 ∧ su n ≤ zs Dm (lo n) (hi n + 1) + db n ∧ zs Dm (lo n) (hi n + 1) ≤ su n + db n
/-- bounds between seams that are closed, and what is so keeps to them -/
def Wok (L : Int) (f : Int → Int) (M : Int → Int → Int) : Prop :=
  (∀ x y, 0 ≤ x → x ≤ L → 0 ≤ y → y ≤ L → zs f 0 y - zs f 0 x ≤ M x y ∧ M x y ≤ 480) ∧ (∀ x, 0 ≤ x → x ≤ L → M x x = 0) ∧
  ∀ x y z, 0 ≤ x → x ≤ L → 0 ≤ y → y ≤ L → 0 ≤ z → z ≤ L → M x y ≤ M x z + M z y
theorem Wok_B {L : Int} {f : Int → Int} {M : Int → Int → Int} (hL : L ≤ 12) (hf : ∀ j, 0 ≤ j → j < L → 0 ≤ f j ∧ f j ≤ 40) (h : Wok L f M) (x y : Int) (h0 : 0 ≤ x) (h1 : x ≤ L) (h2 : 0 ≤ y) (h3 : y ≤ L) : -480 ≤ M x y ∧ M x y ≤ 480 := by
  have a := h.1 x y h0 h1 h2 h3
  have b := zs_bnd hf 0 x (by omega) h0 h1
  have c := zs_bnd hf 0 y (by omega) h2 h3
  omega
theorem Wok_n40 {L : Int} {f : Int → Int} (hL : L ≤ 12) (hf : ∀ j, 0 ≤ j → j < L → 0 ≤ f j ∧ f j ≤ 40) (M : Int → Int → Int) : Wok L f (matA n40 M L) := by
  refine ⟨fun x y x0 x1 y0 y1 => ?_, fun x x0 x1 => ?_, fun x y z x0 x1 y0 y1 z0 z1 => ?_⟩
  · rw [matA_in _ _ _ _ _ x0 x1 y0 y1]
    unfold n40
    by_cases h : x < y
    · rw [if_pos h]
      have a := zs_cat f 0 x y x0 (by omega)
      have b := zs_bnd hf x y x0 (by omega) y1
      omega
    · rw [if_neg h]
      have a := zs_cat f 0 y x y0 (by omega)
      have b := zs_bnd hf y x y0 (by omega) x1
      omega
  · rw [matA_in _ _ _ _ _ x0 x1 x0 x1]
    unfold n40
    rw [if_neg (by omega)]
  · rw [matA_in _ _ _ _ _ x0 x1 y0 y1, matA_in _ _ _ _ _ x0 x1 z0 z1, matA_in _ _ _ _ _ z0 z1 y0 y1]
    unfold n40
    split <;> split <;> split <;> omega
theorem Wok_hd {L : Int} {f : Int → Int} {M : Int → Int → Int} (h : Wok L f M) (a b d : Int) (a0 : 0 ≤ a) (a1 : a ≤ L) (b0 : 0 ≤ b) (b1 : b ≤ L) (hd : zs f 0 b - zs f 0 a ≤ d) : Wok L f (hdM M L a b d) := by
  obtain ⟨h1, h2, h3⟩ := h
  have hba := h1 b a b0 b1 a0 a1
  refine ⟨fun x y x0 x1 y0 y1 => ?_, fun x x0 x1 => ?_, fun x y z x0 x1 y0 y1 z0 z1 => ?_⟩
  · unfold hdM
    rw [matA_in _ _ _ _ _ x0 x1 y0 y1]
    unfold hdg
    have e1 := h1 x y x0 x1 y0 y1
    have e2 := h1 x a x0 x1 a0 a1
    have e3 := h1 b y b0 b1 y0 y1
    omega
  · unfold hdM
    rw [matA_in _ _ _ _ _ x0 x1 x0 x1]
    unfold hdg
    have e1 := h2 x x0 x1
    have e2 := h3 b a x b0 b1 a0 a1 x0 x1
    omega
  · unfold hdM
    rw [matA_in _ _ _ _ _ x0 x1 y0 y1, matA_in _ _ _ _ _ x0 x1 z0 z1, matA_in _ _ _ _ _ z0 z1 y0 y1]
    unfold hdg
    have e1 := h3 x y z x0 x1 y0 y1 z0 z1
    have e2 := h3 b y z b0 b1 y0 y1 z0 z1
    have e3 := h3 x a z x0 x1 a0 a1 z0 z1
    have e4 := h3 b a z b0 b1 a0 a1 z0 z1
    omega
theorem wg_ok {Dm : Int → Int} {L : Int} {lo hi su db : Int → Int} {S : Int} (ok : okS Dm L lo hi su db S) (M : Int → Int → Int) (i : Int) (h0 : 0 ≤ i) (h1 : i ≤ S) : Wok L Dm (wg L lo hi su db M i) := by
  obtain ⟨hL, hS, hf, hs⟩ := ok
  obtain ⟨n, rfl⟩ := Int.eq_ofNat_of_zero_le h0
  induction n with
  | zero => exact Wok_n40 hL.2 hf M
  | succ n ih =>
    rw [show ((n + 1 : Nat) : Int) = (n : Int) + 1 by omega] at h1 ⊢
    rw [wg_up _ _ _ _ _ _ _ (by omega)]
    obtain ⟨s1, s2, s3, s4, s5, s6, s7⟩ := hs n (by omega) (by omega)
    have e := zs_cat Dm 0 (lo n) (hi n + 1) s1 (by omega)
    exact Wok_hd (Wok_hd (ih (by omega) (by omega)) _ _ _ s1 (by omega) (by omega) (by omega) (by omega)) _ _ _ (by omega) (by omega) s1 (by omega) (by omega)
/-- what mostIfTold answers; the doubt of doubtIfDrawn -/
def told (M : Int → Int → Int) (i j u v t : Int) : Int := min (M i j) (min (M i u + t + M v j) (M i v - t + M u j))
def dIf (M : Int → Int → Int) (Dm : Int → Int) (L a b : Int) : Int := zs (fun j => told M j (j + 1) a (b + 1) (zs Dm a (b + 1)) + told M (j + 1) j a (b + 1) (zs Dm a (b + 1))) 0 L
def dNow (M : Int → Int → Int) (L : Int) : Int := zs (fun j => M j (j + 1) - -(M (j + 1) j)) 0 L
def nDry (M : Int → Int → Int) (li L : Int) : Int := zc (fun j => decide (M j (j + 1) ≤ li)) 0 L
def nDamp (M : Int → Int → Int) (li L : Int) : Int := zc (fun j => decide (li < -(M (j + 1) j))) 0 L
/-- the checksum's steps -/
def dgN (f : Int → Int64 → Int64) (d : Int64) : Nat → Int64
  | 0 => d
  | n + 1 => f n (dgN f d n)
def dg (f : Int → Int64 → Int64) (d : Int64) (i : Int) : Int64 := dgN f d i.toNat
theorem dg_0 (f : Int → Int64 → Int64) (d : Int64) : dg f d 0 = d := rfl
theorem dg_up (f : Int → Int64 → Int64) (d : Int64) (i : Int) (h : 0 ≤ i) : dg f d (i + 1) = f i (dg f d i) := by
  obtain ⟨n, rfl⟩ := Int.eq_ofNat_of_zero_le h
  unfold dg
  rw [show ((n : Int) + 1).toNat = n + 1 by omega, show ((n : Int)).toNat = n by omega]
  rfl
def d31 (d : Int64) (x : Int) : Int64 := d * 31 + (zI x).toInt64
def dgL (K Dm : Int → Int) (M : Int → Int → Int) : Int → Int64 → Int64 := fun j d => d31 (d31 (d31 (d31 d (K j)) (Dm j)) (-(M (j + 1) j))) (M j (j + 1))
def dgS (lo hi su db : Int → Int) : Int → Int64 → Int64 := fun j d => d31 (d31 (d31 (d31 d (lo j)) (hi j)) (su j)) (db j)
theorem Wok_T {L : Int} {f : Int → Int} {M : Int → Int → Int} (h : Wok L f M) (a b : Int) (a0 : 0 ≤ a) (a1 : a ≤ L) (b0 : 0 ≤ b) (b1 : b ≤ L) : ∀ x y, 0 ≤ x → x ≤ L → 0 ≤ y → y ≤ L → M x y ≤ M x a + M a b + M b y := fun x y x0 x1 y0 y1 => by
  have e1 := h.2.2 x y a x0 x1 y0 y1 a0 a1
  have e2 := h.2.2 a y b a0 a1 y0 y1 b0 b1
  omega
theorem Wok_N {L : Int} {f : Int → Int} {M : Int → Int → Int} (h : Wok L f M) (a b d : Int) (a0 : 0 ≤ a) (a1 : a ≤ L) (b0 : 0 ≤ b) (b1 : b ≤ L) (hd : zs f 0 b - zs f 0 a ≤ d) : 0 ≤ M b a + d := by
  have e1 := h.1 b a b0 b1 a0 a1
  omega
/-- the first of 0 .. L - 1 that has p, -1 if none has -/
def fidN (p : Int → Bool) : Nat → Int
  | 0 => -1
  | n + 1 => if fidN p n = -1 then (if p n then (n : Int) else -1) else fidN p n
def fidx (p : Int → Bool) (L : Int) : Int := fidN p L.toNat
theorem fidN_no {p : Int → Bool} (n : Nat) (h : ∀ j : Int, 0 ≤ j → j < n → p j = false) : fidN p n = -1 := by
  induction n with
  | zero => rfl
  | succ n ih =>
    unfold fidN
    rw [if_pos (ih (fun j a b => h j a (by omega))), h n (by omega) (by omega)]
    rfl
theorem fidx_no {p : Int → Bool} {L : Int} (h0 : 0 ≤ L) (h : ∀ j : Int, 0 ≤ j → j < L → p j = false) : fidx p L = -1 := fidN_no _ (fun j a b => h j a (by omega))
theorem fidx_is {p : Int → Bool} {L i : Int} (h0 : 0 ≤ i) (h1 : i < L) (hp : p i = true) (h : ∀ j : Int, 0 ≤ j → j < i → p j = false) : fidx p L = i := by
  obtain ⟨n, rfl⟩ := Int.eq_ofNat_of_zero_le h0
  unfold fidx
  suffices K : ∀ m : Nat, n < m → fidN p m = (n : Int) from K _ (by omega)
  intro m
  induction m with
  | zero => intro q; omega
  | succ m ih =>
    intro q
    unfold fidN
    by_cases e : n = m
    · subst e
      rw [if_pos (fidN_no n (fun j a b => h j a b)), if_pos hp]
    · rw [if_neg (by rw [ih (by omega)]; omega)]
      exact ih (by omega)
/-- the best of 0 .. i - 1, of several the first one -/
def agN (b : Int → Int → Bool) : Nat → Int
  | 0 => 0
  | n + 1 => if b ((n : Int) + 1) (agN b n) then (n : Int) + 1 else agN b n
def ag (b : Int → Int → Bool) (i : Int) : Int := agN b (i - 1).toNat
theorem ag_1 (b : Int → Int → Bool) : ag b 1 = 0 := rfl
theorem ag_up (b : Int → Int → Bool) (i : Int) (h : 1 ≤ i) : ag b (i + 1) = if b i (ag b i) then i else ag b i := by
  obtain ⟨n, e⟩ := Int.eq_ofNat_of_zero_le (show 0 ≤ i - 1 by omega)
  obtain rfl : i = (n : Int) + 1 := by omega
  unfold ag
  rw [show ((n : Int) + 1 + 1 - 1).toNat = n + 1 by omega, show ((n : Int) + 1 - 1).toNat = n by omega]
  rfl
theorem ag_in (b : Int → Int → Bool) (i : Int) (h : 1 ≤ i) : 0 ≤ ag b i ∧ ag b i < i := by
  obtain ⟨n, e⟩ := Int.eq_ofNat_of_zero_le (show 0 ≤ i - 1 by omega)
  obtain rfl : i = (n : Int) + 1 := by omega
  clear e h
  induction n with
  | zero =>
    have e : ag b (((0 : Nat) : Int) + 1) = 0 := rfl
    rw [e]
    omega
  | succ n ih =>
    rw [show (((n + 1 : Nat) : Int) + 1) = ((n : Int) + 1) + 1 by omega, ag_up b _ (by omega)]
    split <;> omega
theorem zs_rng {f : Int → Int} {p q : Int} (b : Int) (h0 : 0 ≤ b) (h : ∀ j, 0 ≤ j → j < b → p ≤ f j ∧ f j ≤ q) : b * p ≤ zs f 0 b ∧ zs f 0 b ≤ b * q := by
  obtain ⟨n, rfl⟩ := Int.eq_ofNat_of_zero_le h0
  clear h0
  induction n with
  | zero => simp [zs_0]
  | succ n ih =>
    have e := ih (fun j a b => h j a (by omega))
    have e2 := h n (by omega) (by omega)
    rw [show ((n + 1 : Nat) : Int) = (n : Int) + 1 by omega, zs_up f 0 _ (by omega), Int.add_mul, Int.add_mul]
    omega
theorem dIf_in {M : Int → Int → Int} {Dm : Int → Int} {L : Int} (h0 : 0 ≤ L) (hL : L ≤ 12) (hf : ∀ j, 0 ≤ j → j < L → 0 ≤ Dm j ∧ Dm j ≤ 40) (hB : ∀ x y, 0 ≤ x → x ≤ L → 0 ≤ y → y ≤ L → -480 ≤ M x y ∧ M x y ≤ 480) (a b : Int) (a0 : 0 ≤ a) (a1 : a ≤ b) (b1 : b < L) : -100000 ≤ dIf M Dm L a b ∧ dIf M Dm L a b ≤ 100000 := by
  have ht := zs_bnd hf a (b + 1) a0 (by omega) (by omega)
  have K := zs_rng (f := fun j => told M j (j + 1) a (b + 1) (zs Dm a (b + 1)) + told M (j + 1) j a (b + 1) (zs Dm a (b + 1))) (p := -4000) (q := 1000) L h0 (fun j j0 j1 => by
    have e1 := hB j (j + 1) j0 (by omega) (by omega) (by omega)
    have e2 := hB (j + 1) j (by omega) (by omega) j0 (by omega)
    have e3 := hB j a j0 (by omega) a0 (by omega)
    have e4 := hB (b + 1) (j + 1) (by omega) (by omega) (by omega) (by omega)
    have e5 := hB j (b + 1) j0 (by omega) (by omega) (by omega)
    have e6 := hB a (j + 1) a0 (by omega) (by omega) (by omega)
    have e7 := hB (j + 1) a (by omega) (by omega) a0 (by omega)
    have e8 := hB (b + 1) j (by omega) (by omega) j0 (by omega)
    have e9 := hB (j + 1) (b + 1) (by omega) (by omega) (by omega) (by omega)
    have e10 := hB a j a0 (by omega) j0 (by omega)
    unfold told
    omega)
  have e : dIf M Dm L a b = zs (fun j => told M j (j + 1) a (b + 1) (zs Dm a (b + 1)) + told M (j + 1) j a (b + 1) (zs Dm a (b + 1))) 0 L := rfl
  omega
def dEnd (r : Int) : Int := if r = -1 then 201 else r + 1
