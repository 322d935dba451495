/-! ===== the two matrices are one: what is greatest among what is closed and keeps to the bounds ===== -/
def Cl (L : Int) (C : Int → Int → Int) : Prop := (∀ x, 0 ≤ x → x ≤ L → C x x = 0) ∧ ∀ x y z, 0 ≤ x → x ≤ L → 0 ≤ y → y ≤ L → 0 ≤ z → z ≤ L → C x y ≤ C x z + C z y
def Ed (L : Int) (lo hi su db : Int → Int) (S : Int) (C : Int → Int → Int) : Prop :=
  (∀ q, 0 ≤ q → q < L → C q (q + 1) ≤ 40 ∧ C (q + 1) q ≤ 0) ∧ ∀ n, 0 ≤ n → n < S → C (lo n) (hi n + 1) ≤ su n + db n ∧ C (hi n + 1) (lo n) ≤ db n - su n
def leL (L : Int) (C W : Int → Int → Int) : Prop := ∀ x y, 0 ≤ x → x ≤ L → 0 ≤ y → y ≤ L → C x y ≤ W x y
theorem Cl_n40 {L : Int} {C : Int → Int → Int} (h : Cl L C) (hp : ∀ q, 0 ≤ q → q < L → C q (q + 1) ≤ 40 ∧ C (q + 1) q ≤ 0) (M : Int → Int → Int) : leL L C (matA n40 M L) := by
  have up : ∀ (n : Nat) (x : Int), 0 ≤ x → x + n ≤ L → C x (x + n) ≤ 40 * n ∧ C (x + n) x ≤ 0 := by
    intro n
    induction n with
    | zero =>
      intro x x0 x1
      have e : x + ((0 : Nat) : Int) = x := by omega
      rw [e, h.1 x x0 (by omega)]
      omega
    | succ n ih =>
      intro x x0 x1
      have e : x + ((n + 1 : Nat) : Int) = (x + n) + 1 := by omega
      rw [e]
      have a := ih x x0 (by omega)
      have b := hp (x + n) (by omega) (by omega)
      have c := h.2 x (x + n + 1) (x + n) x0 (by omega) (by omega) (by omega) (by omega) (by omega)
      have d := h.2 (x + n + 1) x (x + n) (by omega) (by omega) x0 (by omega) (by omega) (by omega)
      omega
  intro x y x0 x1 y0 y1
  rw [matA_in _ _ _ _ _ x0 x1 y0 y1]
  unfold n40
  by_cases q : x < y
  · rw [if_pos q]
    have a := (up (y - x).toNat x x0 (by omega)).1
    rw [show x + ((y - x).toNat : Int) = y by omega] at a
    omega
  · rw [if_neg q]
    have a := (up (x - y).toNat y y0 (by omega)).2
    rw [show y + ((x - y).toNat : Int) = x by omega] at a
    exact a
theorem Cl_hd {L : Int} {C W : Int → Int → Int} (h : Cl L C) (hw : leL L C W) (a b d : Int) (a0 : 0 ≤ a) (a1 : a ≤ L) (b0 : 0 ≤ b) (b1 : b ≤ L) (hd : C a b ≤ d) : leL L C (hdM W L a b d) := by
  intro x y x0 x1 y0 y1
  unfold hdM
  rw [matA_in _ _ _ _ _ x0 x1 y0 y1]
  unfold hdg
  have e1 := hw x y x0 x1 y0 y1
  have e2 := hw x a x0 x1 a0 a1
  have e3 := hw b y b0 b1 y0 y1
  have e4 := h.2 x y a x0 x1 y0 y1 a0 a1
  have e5 := h.2 a y b a0 a1 y0 y1 b0 b1
  omega
theorem Cl_wg {Dm : Int → Int} {L : Int} {lo hi su db : Int → Int} {S : Int} (ok : okS Dm L lo hi su db S) {C : Int → Int → Int} (h : Cl L C) (he : Ed L lo hi su db S C) (M : Int → Int → Int) (i : Int) (h0 : 0 ≤ i) (h1 : i ≤ S) : leL L C (wg L lo hi su db M i) := by
  obtain ⟨hL, hS, hf, hs⟩ := ok
  obtain ⟨n, rfl⟩ := Int.eq_ofNat_of_zero_le h0
  induction n with
  | zero => exact Cl_n40 h he.1 M
  | succ n ih =>
    rw [show ((n + 1 : Nat) : Int) = (n : Int) + 1 by omega] at h1 ⊢
    rw [wg_up _ _ _ _ _ _ _ (by omega)]
    obtain ⟨s1, s2, s3, s4, s5, s6, s7⟩ := hs n (by omega) (by omega)
    have e := he.2 n (by omega) (by omega)
    exact Cl_hd h (Cl_hd h (ih (by omega) (by omega)) _ _ _ s1 (by omega) (by omega) (by omega) e.1) _ _ _ (by omega) (by omega) s1 (by omega) e.2
/-- the bounds only get less -/
theorem hd_le {L : Int} {W : Int → Int → Int} (a b d : Int) : leL L (hdM W L a b d) W := by
  intro x y x0 x1 y0 y1
  unfold hdM
  rw [matA_in _ _ _ _ _ x0 x1 y0 y1]
  exact Int.min_le_left _ _
theorem hd_v {L : Int} {f : Int → Int} {W : Int → Int → Int} (h : Wok L f W) (a b d : Int) (a0 : 0 ≤ a) (a1 : a ≤ L) (b0 : 0 ≤ b) (b1 : b ≤ L) : hdM W L a b d a b ≤ d := by
  unfold hdM
  rw [matA_in _ _ _ _ _ a0 a1 b0 b1]
  unfold hdg
  have e1 := h.2.1 a a0 a1
  have e2 := h.2.1 b b0 b1
  omega
theorem leL.trans {L : Int} {A B C : Int → Int → Int} (h1 : leL L A B) (h2 : leL L B C) : leL L A C := fun x y x0 x1 y0 y1 => Int.le_trans (h1 x y x0 x1 y0 y1) (h2 x y x0 x1 y0 y1)
theorem leL.rf {L : Int} {A : Int → Int → Int} : leL L A A := fun _ _ _ _ _ _ => Int.le_refl _
theorem wg_le {L : Int} {lo hi su db : Int → Int} {M : Int → Int → Int} (i : Int) (h0 : 0 ≤ i) (k : Nat) : leL L (wg L lo hi su db M (i + k)) (wg L lo hi su db M i) := by
  induction k with
  | zero => rw [show i + ((0 : Nat) : Int) = i by omega]; exact leL.rf
  | succ k ih =>
    rw [show i + ((k + 1 : Nat) : Int) = (i + k) + 1 by omega, wg_up _ _ _ _ _ _ _ (by omega)]
    exact ((hd_le _ _ _).trans (hd_le _ _ _)).trans ih
theorem wg_Ed {Dm : Int → Int} {L : Int} {lo hi su db : Int → Int} {S : Int} (ok : okS Dm L lo hi su db S) (M : Int → Int → Int) : Ed L lo hi su db S (wg L lo hi su db M S) := by
  obtain ⟨hL, hS, hf, hs⟩ := id ok
  have down : ∀ i, 0 ≤ i → i ≤ S → leL L (wg L lo hi su db M S) (wg L lo hi su db M i) := fun i i0 i1 => by
    have := wg_le (L := L) (lo := lo) (hi := hi) (su := su) (db := db) (M := M) i i0 (S - i).toNat
    rw [show i + ((S - i).toNat : Int) = S by omega] at this
    exact this
  refine ⟨fun q q0 q1 => ?_, fun n n0 n1 => ?_⟩
  · have e1 := down 0 (Int.le_refl _) hS.1 q (q + 1) q0 (by omega) (by omega) (by omega)
    have e2 := down 0 (Int.le_refl _) hS.1 (q + 1) q (by omega) (by omega) q0 (by omega)
    rw [wg_0, matA_in _ _ _ _ _ q0 (by omega) (by omega) (by omega)] at e1
    rw [wg_0, matA_in _ _ _ _ _ (by omega) (by omega) q0 (by omega)] at e2
    unfold n40 at e1 e2
    rw [if_pos (by omega)] at e1
    rw [if_neg (by omega)] at e2
    omega
  · obtain ⟨s1, s2, s3, s4, s5, s6, s7⟩ := hs n n0 n1
    have e := zs_cat Dm 0 (lo n) (hi n + 1) s1 (by omega)
    have w1 := wg_ok ok M n n0 (by omega)
    have w2 := Wok_hd w1 (lo n) (hi n + 1) (su n + db n) s1 (by omega) (by omega) (by omega) (by omega)
    have d := down (n + 1) (by omega) (by omega)
    rw [wg_up _ _ _ _ _ _ _ n0] at d
    have v1 := hd_v w1 (lo n) (hi n + 1) (su n + db n) s1 (by omega) (by omega) (by omega)
    have v2 := hd_v w2 (hi n + 1) (lo n) (db n - su n) (by omega) (by omega) s1 (by omega)
    have d1 := d (lo n) (hi n + 1) s1 (by omega) (by omega) (by omega)
    have d2 := d (hi n + 1) (lo n) (by omega) (by omega) s1 (by omega)
    have d3 := hd_le (L := L) (W := hdM (wg L lo hi su db M n) L (lo n) (hi n + 1) (su n + db n)) (hi n + 1) (lo n) (db n - su n) (lo n) (hi n + 1) s1 (by omega) (by omega) (by omega)
    omega
theorem Wok.Cl {L : Int} {f : Int → Int} {W : Int → Int → Int} (h : Wok L f W) : Cl L W := h.2
/-! ===== the reference's ===== -/
theorem bnd_le (X : Int → Int → Int) (a b v x y : Int) : bnd X a b v x y ≤ X x y := by
  rw [bnd_at]
  split
  · rename_i h
    obtain ⟨rfl, rfl⟩ := h
    exact Int.min_le_left _ _
  · exact Int.le_refl _
theorem bnd_v (X : Int → Int → Int) (a b v : Int) : bnd X a b v a b ≤ v := by
  rw [bnd_at, if_pos ⟨rfl, rfl⟩]
  exact Int.min_le_right _ _
theorem tel_le (X : Int → Int → Int) (a b u v x y : Int) : tel X a b u v x y ≤ X x y := Int.le_trans (bnd_le _ _ _ _ _ _) (bnd_le _ _ _ _ _ _)
theorem tel_v1 (X : Int → Int → Int) (a b u v : Int) : tel X a b u v a (b + 1) ≤ u + v := Int.le_trans (bnd_le _ _ _ _ _ _) (bnd_v _ _ _ _)
theorem tel_v2 (X : Int → Int → Int) (a b u v : Int) : tel X a b u v (b + 1) a ≤ v - u := bnd_v _ _ _ _
theorem eg_le (X : Int → Int → Int) (i : Int) (h0 : 0 ≤ i) (k : Nat) (x y : Int) : eg X (i + k) x y ≤ eg X i x y := by
  induction k with
  | zero => rw [show i + ((0 : Nat) : Int) = i by omega]; exact Int.le_refl _
  | succ k ih =>
    rw [show i + ((k + 1 : Nat) : Int) = (i + k) + 1 by omega, eg_up _ _ (by omega)]
    exact Int.le_trans (bnd_le _ _ _ _ _ _) (Int.le_trans (bnd_le _ _ _ _ _ _) ih)
theorem tl_le (X : Int → Int → Int) (lo hi su db : Int → Int) (i : Int) (h0 : 0 ≤ i) (k : Nat) (x y : Int) : tl X lo hi su db (i + k) x y ≤ tl X lo hi su db i x y := by
  induction k with
  | zero => rw [show i + ((0 : Nat) : Int) = i by omega]; exact Int.le_refl _
  | succ k ih =>
    rw [show i + ((k + 1 : Nat) : Int) = (i + k) + 1 by omega, tl_up _ _ _ _ _ _ (by omega)]
    exact Int.le_trans (tel_le _ _ _ _ _ _ _) ih
theorem bgn_Ed {L : Int} {lo hi su db : Int → Int} {S : Int} (hL : 0 ≤ L) (hS : 0 ≤ S) (X : Int → Int → Int) : Ed L lo hi su db S (bgn X L lo hi su db S) := by
  have d1 : ∀ x y, bgn X L lo hi su db S x y ≤ eg (matA ini X L) L x y := fun x y => by
    have := tl_le (eg (matA ini X L) L) lo hi su db 0 (Int.le_refl _) S.toNat x y
    rw [show (0 : Int) + (S.toNat : Int) = S by omega] at this
    exact this
  refine ⟨fun q q0 q1 => ?_, fun n n0 n1 => ?_⟩
  · have e : ∀ x y, eg (matA ini X L) L x y ≤ eg (matA ini X L) (q + 1) x y := fun x y => by
      have := eg_le (matA ini X L) (q + 1) (by omega) (L - (q + 1)).toNat x y
      rw [show (q + 1 : Int) + ((L - (q + 1)).toNat : Int) = L by omega] at this
      exact this
    have a1 := Int.le_trans (d1 q (q + 1)) (e q (q + 1))
    have a2 := Int.le_trans (d1 (q + 1) q) (e (q + 1) q)
    rw [eg_up _ _ q0] at a1 a2
    exact ⟨Int.le_trans a1 (Int.le_trans (bnd_le _ _ _ _ _ _) (bnd_v _ _ _ _)), Int.le_trans a2 (bnd_v _ _ _ _)⟩
  · have e : ∀ x y, bgn X L lo hi su db S x y ≤ tl (eg (matA ini X L) L) lo hi su db (n + 1) x y := fun x y => by
      have := tl_le (eg (matA ini X L) L) lo hi su db (n + 1) (by omega) (S - (n + 1)).toNat x y
      rw [show (n + 1 : Int) + ((S - (n + 1)).toNat : Int) = S by omega] at this
      exact this
    have a1 := e (lo n) (hi n + 1)
    have a2 := e (hi n + 1) (lo n)
    rw [tl_up _ _ _ _ _ _ n0] at a1 a2
    exact ⟨Int.le_trans a1 (tel_v1 _ _ _ _ _), Int.le_trans a2 (tel_v2 _ _ _ _ _)⟩
theorem bnd_ge {L : Int} {C X : Int → Int → Int} (h : leL L C X) (a b v : Int) (hv : C a b ≤ v) : leL L C (bnd X a b v) := by
  intro x y x0 x1 y0 y1
  rw [bnd_at]
  split
  · rename_i q
    obtain ⟨rfl, rfl⟩ := q
    have := h x y x0 x1 y0 y1
    omega
  · exact h x y x0 x1 y0 y1
theorem tel_ge {L : Int} {C X : Int → Int → Int} (h : leL L C X) (a b u v : Int) (h1 : C a (b + 1) ≤ u + v) (h2 : C (b + 1) a ≤ v - u) : leL L C (tel X a b u v) := bnd_ge (bnd_ge h _ _ _ h1) _ _ _ h2
theorem bgn_ge {L : Int} {lo hi su db : Int → Int} {S : Int} (hL : 0 ≤ L) (hS : 0 ≤ S) {C : Int → Int → Int} (h : Cl L C) (he : Ed L lo hi su db S C) (hb : ∀ x y, 0 ≤ x → x ≤ L → 0 ≤ y → y ≤ L → C x y ≤ 1000000) (X : Int → Int → Int) : leL L C (bgn X L lo hi su db S) := by
  have e0 : leL L C (matA ini X L) := fun x y x0 x1 y0 y1 => by
    rw [matA_in _ _ _ _ _ x0 x1 y0 y1]
    unfold ini
    split
    · rename_i q
      subst q
      rw [h.1 x x0 x1]
      exact Int.le_refl _
    · exact hb x y x0 x1 y0 y1
  have e1 : ∀ n : Nat, (n : Int) ≤ L → leL L C (eg (matA ini X L) n) := by
    intro n
    induction n with
    | zero => intro _; exact e0
    | succ n ih =>
      intro hn
      rw [show ((n + 1 : Nat) : Int) = (n : Int) + 1 by omega, eg_up _ _ (by omega)]
      have q := he.1 n (by omega) (by omega)
      exact bnd_ge (bnd_ge (ih (by omega)) _ _ _ q.1) _ _ _ q.2
  have e2 : ∀ n : Nat, (n : Int) ≤ S → leL L C (tl (eg (matA ini X L) L) lo hi su db n) := by
    intro n
    induction n with
    | zero =>
      intro _
      have := e1 L.toNat (by omega)
      rw [show (L.toNat : Int) = L by omega] at this
      exact this
    | succ n ih =>
      intro hn
      rw [show ((n + 1 : Nat) : Int) = (n : Int) + 1 by omega, tl_up _ _ _ _ _ _ (by omega)]
      have q := he.2 n (by omega) (by omega)
      exact tel_ge (ih (by omega)) _ _ _ _ q.1 q.2
  have := e2 S.toNat (by omega)
  rw [show (S.toNat : Int) = S by omega] at this
  exact this
theorem fw_le {L : Int} (X : Int → Int → Int) (n : Nat) (hn : (n : Int) ≤ L + 1) : leL L (fw X L n) X := by
  induction n with
  | zero => exact leL.rf
  | succ n ih =>
    intro x y x0 x1 y0 y1
    rw [show ((n + 1 : Nat) : Int) = (n : Int) + 1 by omega, fw_up _ _ _ (by omega), matA_in _ _ _ _ _ x0 x1 y0 y1]
    exact Int.le_trans (Int.min_le_left _ _) (ih (by omega) x y x0 x1 y0 y1)
theorem fw_ge {L : Int} {C X : Int → Int → Int} (h : Cl L C) (hx : leL L C X) (n : Nat) (hn : (n : Int) ≤ L + 1) : leL L C (fw X L n) := by
  induction n with
  | zero => exact hx
  | succ n ih =>
    have ih := ih (by omega)
    intro x y x0 x1 y0 y1
    rw [show ((n + 1 : Nat) : Int) = (n : Int) + 1 by omega, fw_up _ _ _ (by omega), matA_in _ _ _ _ _ x0 x1 y0 y1]
    unfold fwg
    have e1 := ih x y x0 x1 y0 y1
    have e2 := ih x n x0 x1 (by omega) (by omega)
    have e3 := ih n y (by omega) (by omega) y0 y1
    have e4 := h.2 x y n x0 x1 y0 y1 (by omega) (by omega)
    omega
theorem fw_tri {L : Int} {f : Int → Int} {X : Int → Int → Int} (h : Fok L f X) (n : Nat) (hn : (n : Int) ≤ L + 1) : ∀ z : Int, 0 ≤ z → z < n → ∀ x y, 0 ≤ x → x ≤ L → 0 ≤ y → y ≤ L → fw X L n x y ≤ fw X L n x z + fw X L n z y := by
  induction n with
  | zero => intro z z0 z1; omega
  | succ n ih =>
    have ih := ih (by omega)
    have hF := Fok_fw h n (by omega) (by omega)
    intro z z0 z1 x y x0 x1 y0 y1
    rw [show ((n + 1 : Nat) : Int) = (n : Int) + 1 by omega, fw_up _ _ _ (by omega)]
    rw [matA_in _ _ _ _ _ x0 x1 y0 y1, matA_in _ _ _ _ _ x0 x1 z0 (by omega), matA_in _ _ _ _ _ z0 (by omega) y0 y1]
    unfold fwg
    have k := hF.2 n (by omega) (by omega)
    by_cases q : z = n
    · subst q
      omega
    · have a1 := ih z z0 (by omega) x y x0 x1 y0 y1
      have a2 := ih z z0 (by omega) x n x0 x1 (by omega) (by omega)
      have a3 := ih z z0 (by omega) n y (by omega) (by omega) y0 y1
      have a4 := hF.1 n z (by omega) (by omega) z0 (by omega)
      have a5 := hF.1 z n z0 (by omega) (by omega) (by omega)
      omega
theorem fw_Cl {L : Int} {f : Int → Int} {X : Int → Int → Int} (hL : 0 ≤ L) (h : Fok L f X) : Cl L (fw X L (L + 1)) := by
  have e := fw_tri h (L + 1).toNat (by omega)
  rw [show ((L + 1).toNat : Int) = L + 1 by omega] at e
  exact ⟨(Fok_fw h (L + 1) (by omega) (Int.le_refl _)).2, fun x y z x0 x1 y0 y1 z0 z1 => e z z0 (by omega) x y x0 x1 y0 y1⟩
theorem leL_Ed {L : Int} {lo hi su db : Int → Int} {S : Int} {C W : Int → Int → Int} (hs : ∀ n, 0 ≤ n → n < S → 0 ≤ lo n ∧ lo n ≤ hi n ∧ hi n < L) (h : leL L C W) (he : Ed L lo hi su db S W) : Ed L lo hi su db S C :=
  ⟨fun q q0 q1 => ⟨Int.le_trans (h q (q + 1) q0 (by omega) (by omega) (by omega)) (he.1 q q0 q1).1, Int.le_trans (h (q + 1) q (by omega) (by omega) q0 (by omega)) (he.1 q q0 q1).2⟩,
   fun n n0 n1 => by
    obtain ⟨s1, s2, s3⟩ := hs n n0 n1
    exact ⟨Int.le_trans (h _ _ s1 (by omega) (by omega) (by omega)) (he.2 n n0 n1).1, Int.le_trans (h _ _ (by omega) (by omega) s1 (by omega)) (he.2 n n0 n1).2⟩⟩
theorem fw_le1 {L : Int} (hL : 0 ≤ L) (X : Int → Int → Int) : leL L (fw X L (L + 1)) X := by
  have := fw_le (L := L) X (L + 1).toNat (by omega)
  rw [show ((L + 1).toNat : Int) = L + 1 by omega] at this
  exact this
theorem fw_ge1 {L : Int} (hL : 0 ≤ L) {C X : Int → Int → Int} (h : Cl L C) (hx : leL L C X) : leL L C (fw X L (L + 1)) := by
  have := fw_ge h hx (L + 1).toNat (by omega)
  rw [show ((L + 1).toNat : Int) = L + 1 by omega] at this
  exact this
/-- THE TWO ARE ONE -/
theorem wg_fw {Dm : Int → Int} {L : Int} {lo hi su db : Int → Int} {S : Int} (ok : okS Dm L lo hi su db S) (M X : Int → Int → Int) : eqL L (wg L lo hi su db M S) (fw (bgn X L lo hi su db S) L (L + 1)) := by
  obtain ⟨hL, hS, hf, hs⟩ := id ok
  have w := wg_ok ok M S hS.1 (Int.le_refl _)
  have wB := Wok_B hL.2 hf w
  have b := Fok_bgn ok X
  have fC := fw_Cl hL.1 b
  have fE := leL_Ed (fun n n0 n1 => by have := hs n n0 n1; omega) (fw_le1 hL.1 (bgn X L lo hi su db S)) (bgn_Ed hL.1 hS.1 X)
  have h1 := fw_ge1 hL.1 w.Cl (bgn_ge hL.1 hS.1 w.Cl (wg_Ed ok M) (fun x y x0 x1 y0 y1 => by have := wB x y x0 x1 y0 y1; omega) X)
  have h2 := Cl_wg ok fC fE M S hS.1 (Int.le_refl _)
  intro x y x0 x1 y0 y1
  exact Int.le_antisymm (h1 x y x0 x1 y0 y1) (h2 x y x0 x1 y0 y1)
/-- .. and if a sample was drawn -/
theorem told_fw {Dm : Int → Int} {L : Int} {lo hi su db : Int → Int} {S : Int} (ok : okS Dm L lo hi su db S) (M X : Int → Int → Int) (a b : Int) (a0 : 0 ≤ a) (ab : a ≤ b) (b1 : b < L) : ∀ i j, 0 ≤ i → i ≤ L → 0 ≤ j → j ≤ L → told (wg L lo hi su db M S) i j a (b + 1) (zs Dm a (b + 1)) = bhd X Dm L lo hi su db S a b i j := by
  obtain ⟨hL, hS, hf, hs⟩ := id ok
  have w := wg_ok ok M S hS.1 (Int.le_refl _)
  have e := zs_cat Dm 0 a (b + 1) a0 (by omega)
  have w1 := Wok_hd w a (b + 1) (zs Dm a (b + 1)) a0 (by omega) (by omega) (by omega) (by omega)
  have w2 := Wok_hd w1 (b + 1) a (0 - zs Dm a (b + 1)) (by omega) (by omega) a0 (by omega) (by omega)
  have wB := Wok_B hL.2 hf w2
  have fB := Fok_tel (Fok_bgn ok X) a b (zs Dm a (b + 1)) 0 a0 ab (by omega) (by omega)
  have fC := fw_Cl hL.1 fB
  have fL : leL L (bhd X Dm L lo hi su db S a b) (tel (bgn X L lo hi su db S) a b (zs Dm a (b + 1)) 0) := fw_le1 hL.1 _
  have tL : leL L (tel (bgn X L lo hi su db S) a b (zs Dm a (b + 1)) 0) (bgn X L lo hi su db S) := fun x y _ _ _ _ => tel_le _ _ _ _ _ _ _
  have fE := leL_Ed (fun n n0 n1 => by have := hs n n0 n1; omega) (fL.trans tL) (bgn_Ed hL.1 hS.1 X)
  have f1 := Int.le_trans (fL a (b + 1) a0 (by omega) (by omega) (by omega)) (tel_v1 _ _ _ _ _)
  have f2 := Int.le_trans (fL (b + 1) a (by omega) (by omega) a0 (by omega)) (tel_v2 _ _ _ _ _)
  have wE := leL_Ed (fun n n0 n1 => by have := hs n n0 n1; omega) ((hd_le (b + 1) a (0 - zs Dm a (b + 1))).trans (hd_le a (b + 1) (zs Dm a (b + 1)))) (wg_Ed ok M)
  have v1 := hd_v w a (b + 1) (zs Dm a (b + 1)) a0 (by omega) (by omega) (by omega)
  have v2 := hd_v w1 (b + 1) a (0 - zs Dm a (b + 1)) (by omega) (by omega) a0 (by omega)
  have v3 := hd_le (L := L) (W := hdM (wg L lo hi su db M S) L a (b + 1) (zs Dm a (b + 1))) (b + 1) a (0 - zs Dm a (b + 1)) a (b + 1) a0 (by omega) (by omega) (by omega)
  have h1 : leL L _ (bhd X Dm L lo hi su db S a b) := fw_ge1 hL.1 w2.Cl (tel_ge (bgn_ge hL.1 hS.1 w2.Cl wE (fun x y x0 x1 y0 y1 => by have := wB x y x0 x1 y0 y1; omega) X) a b _ 0 (by omega) (by omega))
  have h2 := Cl_hd fC (Cl_hd fC (Cl_wg ok fC fE M S hS.1 (Int.le_refl _)) a (b + 1) (zs Dm a (b + 1)) a0 (by omega) (by omega) (by omega) (by unfold bhd at f1; omega)) (b + 1) a (0 - zs Dm a (b + 1)) (by omega) (by omega) a0 (by omega) (by unfold bhd at f2; omega)
  intro i j i0 i1 j0 j1
  rw [← Int.le_antisymm (h1 i j i0 i1 j0 j1) (h2 i j i0 i1 j0 j1)]
  clear h1 h2 v1 v2 v3 wE f1 f2 fE tL fL fC fB wB w1 w2
  unfold hdM
  rw [matA_in _ _ _ _ _ i0 i1 j0 j1]
  unfold hdg
  rw [matA_in _ _ _ _ _ i0 i1 j0 j1, matA_in _ _ _ _ _ i0 i1 (by omega) (by omega), matA_in _ _ _ _ _ a0 (by omega) j0 j1]
  unfold told
  have p1 := w.2.1 a a0 (by omega)
  have p2 := w.2.1 (b + 1) (by omega) (by omega)
  have p3 := w.2.2 i j (b + 1) i0 i1 j0 j1 (by omega) (by omega)
  have p4 := w.2.2 i j a i0 i1 j0 j1 a0 (by omega)
  rw [p1, p2]
  omega
theorem dIf_dNow {Dm : Int → Int} {L : Int} {lo hi su db : Int → Int} {S : Int} (ok : okS Dm L lo hi su db S) (M X : Int → Int → Int) (a b : Int) (a0 : 0 ≤ a) (ab : a ≤ b) (b1 : b < L) : dIf (wg L lo hi su db M S) Dm L a b = dNow (bhd X Dm L lo hi su db S a b) L :=
  zs_eq 0 L (fun j j0 j1 => by
    have e1 := told_fw ok M X a b a0 ab b1 j (j + 1) j0 (by omega) (by omega) (by omega)
    have e2 := told_fw ok M X a b a0 ab b1 (j + 1) j (by omega) (by omega) j0 (by omega)
    omega)
