/-! ===== what the law's body says, in words ===== -/
def gl (W : Int → Int → Int) : Int → Int → Int := fun p t => if p ≤ t then -(W (t + 1) p) else 0
def gm (W : Int → Int → Int) : Int → Int → Int := fun p t => if p ≤ t then W p (t + 1) else 0
theorem gl_at {W : Int → Int → Int} {p t : Int} (h : p ≤ t) : gl W p t = -(W (t + 1) p) := if_pos h
theorem gm_at {W : Int → Int → Int} {p t : Int} (h : p ≤ t) : gm W p t = W p (t + 1) := if_pos h
def mo (g : Int → Int → Int) (p : Int) : Int → Int → Int := fun a b => if a < p then g a b else 0
def mm (g : Int → Int → Int) (p t : Int) : Int → Int → Int := fun a b => if a < p ∨ (a = p ∧ b < t) then g a b else 0
theorem mm_up (g : Int → Int → Int) (i j : Int) : mm g i (j + 1) = upR (mm g i j) i (upZ (mm g i j i) j (g i j)) := by
  funext a b
  unfold upR
  by_cases h : a = i
  · subst h
    rw [if_pos rfl]
    unfold upZ
    by_cases h2 : b = j
    · subst h2
      rw [if_pos rfl]
      unfold mm
      rw [if_pos (by omega)]
    · rw [if_neg h2]
      unfold mm
      by_cases h3 : b < j
      · rw [if_pos (by omega), if_pos (by omega)]
      · rw [if_neg (by omega), if_neg (by omega)]
  · rw [if_neg h]
    unfold mm
    by_cases h3 : a < i
    · rw [if_pos (by omega), if_pos (by omega)]
    · rw [if_neg (by omega), if_neg (by omega)]
theorem mo_0 (g : Int → Int → Int) : ∀ j : Nat, ∀ x : Int, (fun _ _ => 0 : Int → Int → Int) (j : Int) x = mo g 0 (j : Int) x := fun j x => by
  unfold mo
  rw [if_neg (by omega)]
theorem mo_mm {g : Int → Int → Int} (hg : ∀ p t, t < p → g p t = 0) (i : Int) : ∀ a x : Int, mo g i a x = mm g i i a x := fun a x => by
  unfold mo mm
  by_cases h : a < i
  · rw [if_pos h, if_pos (by omega)]
  · rw [if_neg h]
    by_cases h2 : a = i ∧ x < i
    · rw [if_pos (by omega)]
      exact (hg a x (by omega)).symm
    · rw [if_neg (by omega)]
theorem mm_mo (g : Int → Int → Int) (i n : Int) : ∀ a x : Int, x < n → mm g i n a x = mo g (i + 1) a x := fun a x hx => by
  unfold mo mm
  by_cases h : a < i + 1
  · rw [if_pos h, if_pos (by omega)]
  · rw [if_neg h, if_neg (by omega)]
theorem mo_all (g : Int → Int → Int) (n : Int) : ∀ a x : Int, a < n → mo g n a x = g a x := fun a x ha => by
  unfold mo
  rw [if_pos ha]
theorem gl_z (W : Int → Int → Int) : ∀ p t, t < p → gl W p t = 0 := fun p t h => if_neg (by omega)
theorem gm_z (W : Int → Int → Int) : ∀ p t, t < p → gm W p t = 0 := fun p t h => if_neg (by omega)
/-- the checksum -/
def dgW (K Dm : Int → Int) (L : Int) (lo hi su db : Int → Int) (S dy li so sp : Int) (W : Int → Int → Int) : Int64 := dg (dgS lo hi su db) (dg (dgL K Dm W) (((((((((1907 * 31 + ((zI L).toInt64)) * 31 + ((zI S).toInt64)) * 31 + ((zI dy).toInt64)) * 31 + ((zI li).toInt64)) * 31 + ((zI so).toInt64)) * 31 + ((zI sp).toInt64)) * 31 + ((zI (dNow W L)).toInt64)) * 31 + ((zI (nDry W li L)).toInt64)) * 31 + ((zI (nDamp W li L)).toInt64)) L) S
theorem dgW_eq {K Dm : Int → Int} {L : Int} {lo hi su db lo' hi' su' db' : Int → Int} {S dy li so sp : Int} {W W' : Int → Int → Int} (h1 : eqI S lo lo') (h2 : eqI S hi hi') (h3 : eqI S su su') (h4 : eqI S db db') (hW : eqL L W W') : dgW K Dm L lo hi su db S dy li so sp W = dgW K Dm L lo' hi' su' db' S dy li so sp W' := by
  unfold dgW
  rw [eqL_dNow hW, eqL_nDry hW, eqL_nDamp hW]
  rw [dg_eq (f := dgL K Dm W) (g := dgL K Dm W') _ L (fun j j0 j1 x => by unfold dgL; rw [hW (j + 1) j (by omega) (by omega) j0 (by omega), hW j (j + 1) j0 (by omega) (by omega) (by omega)])]
  exact dg_eq (f := dgS lo hi su db) (g := dgS lo' hi' su' db') _ S (fun j j0 j1 x => by unfold dgS; rw [h1 j j0 j1, h2 j j0 j1, h3 j j0 j1, h4 j j0 j1])
theorem wgN_pre {L : Int} {lo hi su db lo' hi' su' db' : Int → Int} (M : Int → Int → Int) {S : Int} (h1 : eqI S lo lo') (h2 : eqI S hi hi') (h3 : eqI S su su') (h4 : eqI S db db') : ∀ n : Nat, (n : Int) ≤ S → wgN L lo hi su db M n = wgN L lo' hi' su' db' M n
  | 0, _ => rfl
  | n + 1, h => by
    show hdM (hdM (wgN L lo hi su db M n) L (lo n) (hi n + 1) (su n + db n)) L (hi n + 1) (lo n) (db n - su n) = hdM (hdM (wgN L lo' hi' su' db' M n) L (lo' n) (hi' n + 1) (su' n + db' n)) L (hi' n + 1) (lo' n) (db' n - su' n)
    rw [wgN_pre M h1 h2 h3 h4 n (by omega), h1 n (by omega) (by omega), h2 n (by omega) (by omega), h3 n (by omega) (by omega), h4 n (by omega) (by omega)]
theorem wg_pre {L : Int} {lo hi su db lo' hi' su' db' : Int → Int} (M : Int → Int → Int) {S : Int} (hS : 0 ≤ S) (h1 : eqI S lo lo') (h2 : eqI S hi hi') (h3 : eqI S su su') (h4 : eqI S db db') : wg L lo hi su db M S = wg L lo' hi' su' db' M S := wgN_pre M h1 h2 h3 h4 S.toNat (by omega)
theorem eqI_upZ (f : Int → Int) (S v : Int) : eqI S (upZ f S v) f := fun j j0 j1 => upZ_n (by omega)
/-- a sample more: what could be is what was told -/
theorem wz_told {Dm : Int → Int} {L : Int} {lo hi su db : Int → Int} {S : Int} (hok : okS Dm L lo hi su db S) (a b : Int) (a0 : 0 ≤ a) (ab : a ≤ b) (b1 : b < L) : ∀ i j, 0 ≤ i → i ≤ L → 0 ≤ j → j ≤ L → wz L (upZ lo S a) (upZ hi S b) (upZ su S (zs Dm a (b + 1))) (upZ db S 0) (S + 1) i j = told (wz L lo hi su db S) i j a (b + 1) (zs Dm a (b + 1)) := by
  have w := wz_ok hok
  have hS0 := hok.2.1.1
  unfold wz
  rw [wg_up _ _ _ _ _ _ _ hS0, upZ_s, upZ_s, upZ_s, upZ_s, wg_pre (lo' := lo) (hi' := hi) (su' := su) (db' := db) _ hS0 (eqI_upZ lo S a) (eqI_upZ hi S b) (eqI_upZ su S _) (eqI_upZ db S 0)]
  have e := zs_cat Dm 0 a (b + 1) a0 (by omega)
  intro i j i0 i1 j0 j1
  unfold wz at w
  unfold hdM
  rw [matA_in _ _ _ _ _ i0 i1 j0 j1]
  unfold hdg
  rw [matA_in _ _ _ _ _ i0 i1 j0 j1, matA_in _ _ _ _ _ i0 i1 (by omega) (by omega), matA_in _ _ _ _ _ a0 (by omega) j0 j1]
  unfold told
  have p1 := w.2.1 a a0 (by omega)
  have p2 := w.2.1 (b + 1) (by omega) (by omega)
  have p3 := w.2.2 i j (b + 1) i0 i1 j0 j1 (by omega) (by omega)
  have p4 := w.2.2 i j a i0 i1 j0 j1 a0 (by omega)
  rw [p1, p2]
  omega
theorem wz_told_s {Dm : Int → Int} {L : Int} {lo hi su db : Int → Int} {S : Int} (hok : okS Dm L lo hi su db S) (a b : Int) (a0 : 0 ≤ a) (ab : a ≤ b) (b1 : b < L) : wz L (upZ lo S a) (upZ hi S b) (upZ su S (zs Dm a (b + 1))) (upZ db S 0) (S + 1) (b + 1) a = -(zs Dm a (b + 1)) ∧ wz L (upZ lo S a) (upZ hi S b) (upZ su S (zs Dm a (b + 1))) (upZ db S 0) (S + 1) a (b + 1) = zs Dm a (b + 1) := by
  have w := wz_ok hok
  have e := zs_cat Dm 0 a (b + 1) a0 (by omega)
  have p1 := w.2.1 a a0 (by omega)
  have p2 := w.2.1 (b + 1) (by omega) (by omega)
  have p3 := (w.1 (b + 1) a (by omega) (by omega) a0 (by omega)).1
  have p4 := (w.1 a (b + 1) a0 (by omega) (by omega) (by omega)).1
  rw [wz_told hok a b a0 ab b1 (b + 1) a (by omega) (by omega) a0 (by omega), wz_told hok a b a0 ab b1 a (b + 1) a0 (by omega) (by omega) (by omega)]
  unfold told
  rw [p1, p2]
  omega
theorem wz_told_d {Dm : Int → Int} {L : Int} {lo hi su db : Int → Int} {S : Int} (hok : okS Dm L lo hi su db S) (a b : Int) (a0 : 0 ≤ a) (ab : a ≤ b) (b1 : b < L) : dNow (wz L (upZ lo S a) (upZ hi S b) (upZ su S (zs Dm a (b + 1))) (upZ db S 0) (S + 1)) L = dIf (wz L lo hi su db S) Dm L a b :=
  zs_eq 0 L (fun j j0 j1 => by
    show _ - -_ = told _ _ _ _ _ _ + told _ _ _ _ _ _
    rw [wz_told hok a b a0 ab b1 j (j + 1) j0 (by omega) (by omega) (by omega), wz_told hok a b a0 ab b1 (j + 1) j (by omega) (by omega) j0 (by omega)]
    omega)
theorem dIf_le (W : Int → Int → Int) (Dm : Int → Int) (L a b : Int) (hL : 0 ≤ L) : dIf W Dm L a b ≤ dNow W L := by
  have h := zs_mono (f := fun j => told W j (j + 1) a (b + 1) (zs Dm a (b + 1)) + told W (j + 1) j a (b + 1) (zs Dm a (b + 1))) (g := fun j => W j (j + 1) - -(W (j + 1) j)) L.toNat (fun k _ _ => by
    have h1 : told W k (k + 1) a (b + 1) (zs Dm a (b + 1)) ≤ W k (k + 1) := Int.min_le_left _ _
    have h2 : told W (k + 1) k a (b + 1) (zs Dm a (b + 1)) ≤ W (k + 1) k := Int.min_le_left _ _
    show _ + _ ≤ _ - -_
    omega)
  rw [show (L.toNat : Int) = L by omega] at h
  exact h
theorem eqL_told {L : Int} {X Y : Int → Int → Int} (h : eqL L X Y) {i j u v t : Int} (i0 : 0 ≤ i) (i1 : i ≤ L) (j0 : 0 ≤ j) (j1 : j ≤ L) (u0 : 0 ≤ u) (u1 : u ≤ L) (v0 : 0 ≤ v) (v1 : v ≤ L) : told X i j u v t = told Y i j u v t := by
  unfold told
  rw [h i j i0 i1 j0 j1, h i u i0 i1 u0 u1, h v j v0 v1 j0 j1, h i v i0 i1 v0 v1, h u j u0 u1 j0 j1]
theorem eqL_dIf {L : Int} {X Y : Int → Int → Int} (h : eqL L X Y) (Dm : Int → Int) {a b : Int} (a0 : 0 ≤ a) (ab : a ≤ b) (b1 : b < L) : dIf X Dm L a b = dIf Y Dm L a b := zs_eq 0 L (fun j j0 j1 => by
  show told _ _ _ _ _ _ + told _ _ _ _ _ _ = told _ _ _ _ _ _ + told _ _ _ _ _ _
  rw [eqL_told h j0 (by omega) (by omega) (by omega) a0 (by omega) (by omega) (by omega), eqL_told h (by omega) (by omega) j0 (by omega) a0 (by omega) (by omega) (by omega)])
theorem agN_cg {b c : Int → Int → Bool} (h : ∀ x y, b x y = c x y) : b = c := funext fun x => funext fun y => h x y
theorem best_le (g : Int → Int) {L : Int} (hL : 1 ≤ L) : (0 ≤ ag (fun x y => decide (g x < g y)) L ∧ ag (fun x y => decide (g x < g y)) L < L) ∧ ∀ j, 0 ≤ j → j < L → g (ag (fun x y => decide (g x < g y)) L) ≤ g j := by
  have e : (fun x y => decide (g x < g y)) = fun x y => decide (-(g y) < -(g x)) := agN_cg (fun x y => decide_eq_decide.mpr (by omega))
  obtain ⟨h1, h2, -⟩ := ag_spec (fun z => -(g z)) (L - 1).toNat
  rw [e]
  refine ⟨?_, fun j j0 j1 => ?_⟩
  · show 0 ≤ agN (fun x y => decide (-(g y) < -(g x))) (L - 1).toNat ∧ agN (fun x y => decide (-(g y) < -(g x))) (L - 1).toNat < L
    have h1 : 0 ≤ agN (fun x y => decide (-(g y) < -(g x))) (L - 1).toNat ∧ agN (fun x y => decide (-(g y) < -(g x))) (L - 1).toNat ≤ ((L - 1).toNat : Int) := h1
    omega
  · have h3 : -(g j) ≤ -(g (agN (fun x y => decide (-(g y) < -(g x))) (L - 1).toNat)) := h2 j j0 (by omega)
    show g (agN (fun x y => decide (-(g y) < -(g x))) (L - 1).toNat) ≤ g j
    omega
theorem zc_mono {p q : Int → Bool} (a : Int) : ∀ n : Nat, (∀ j : Int, a ≤ j → j < a + n → p j = true → q j = true) → zc p a (a + n) ≤ zc q a (a + n)
  | 0, _ => by rw [show a + ((0 : Nat) : Int) = a by omega, zc_0, zc_0]; exact Int.le_refl _
  | n + 1, h => by
    have ih := zc_mono a n (fun j j0 j1 => h j j0 (by omega))
    rw [show a + ((n + 1 : Nat) : Int) = (a + n) + 1 by omega]
    cases hp : p (a + n) with
    | true => rw [zc_t p a _ (by omega) hp, zc_t q a _ (by omega) (h _ (by omega) (by omega) hp)]; omega
    | false =>
      rw [zc_f p a _ (by omega) hp]
      cases hq : q (a + n) with
      | true => rw [zc_t q a _ (by omega) hq]; omega
      | false => rw [zc_f q a _ (by omega) hq]; exact ih
theorem zc_apart {p q : Int → Bool} (a : Int) : ∀ n : Nat, (∀ j : Int, a ≤ j → j < a + n → p j = true → q j = false) → zc p a (a + n) + zc q a (a + n) ≤ n
  | 0, _ => by rw [show a + ((0 : Nat) : Int) = a by omega, zc_0, zc_0]; omega
  | n + 1, h => by
    have ih := zc_apart a n (fun j j0 j1 => h j j0 (by omega))
    rw [show a + ((n + 1 : Nat) : Int) = (a + n) + 1 by omega]
    cases hp : p (a + n) with
    | true => rw [zc_t p a _ (by omega) hp, zc_f q a _ (by omega) (h _ (by omega) (by omega) hp)]; omega
    | false =>
      rw [zc_f p a _ (by omega) hp]
      cases hq : q (a + n) with
      | true => rw [zc_t q a _ (by omega) hq]; omega
      | false => rw [zc_f q a _ (by omega) hq]; omega
/-- how many are surely dry, surely damp, damp -/
theorem dry_damp {Dm : Int → Int} {L li : Int} {lo hi su db : Int → Int} {S : Int} (hok : okS Dm L lo hi su db S) : nDry (wz L lo hi su db S) li L + nDamp (wz L lo hi su db S) li L ≤ L ∧ nDamp (wz L lo hi su db S) li L ≤ zc (fun j => decide (li < Dm j)) 0 L ∧ nDry (wz L lo hi su db S) li L + zc (fun j => decide (li < Dm j)) 0 L ≤ L := by
  have hL := hok.1
  have w := wz_ok hok
  have hb : ∀ j, 0 ≤ j → j < L → Dm j ≤ wz L lo hi su db S j (j + 1) ∧ -(wz L lo hi su db S (j + 1) j) ≤ Dm j := fun j j0 j1 => by
    have q1 := (w.1 j (j + 1) j0 (by omega) (by omega) (by omega)).1
    have q2 := (w.1 (j + 1) j (by omega) (by omega) j0 (by omega)).1
    have q3 := zs_up Dm 0 j j0
    omega
  have a1 := zc_apart (p := fun j => decide (wz L lo hi su db S j (j + 1) ≤ li)) (q := fun j => decide (li < -(wz L lo hi su db S (j + 1) j))) 0 L.toNat (fun j j0 j1 hp => decide_eq_false (by have := of_decide_eq_true hp; have := hb j j0 (by omega); omega))
  have a2 := zc_mono (p := fun j => decide (li < -(wz L lo hi su db S (j + 1) j))) (q := fun j => decide (li < Dm j)) 0 L.toNat (fun j j0 j1 hp => decide_eq_true (by have := of_decide_eq_true hp; have := hb j j0 (by omega); omega))
  have a3 := zc_apart (p := fun j => decide (wz L lo hi su db S j (j + 1) ≤ li)) (q := fun j => decide (li < Dm j)) 0 L.toNat (fun j j0 j1 hp => decide_eq_false (by have := of_decide_eq_true hp; have := hb j j0 (by omega); omega))
  rw [show (0 : Int) + (L.toNat : Int) = L by omega] at a1 a2 a3
  unfold nDry nDamp
  omega
theorem fidN_spec (p : Int → Bool) : ∀ n : Nat, (fidN p n = -1 ∧ ∀ j : Int, 0 ≤ j → j < n → p j = false) ∨ (0 ≤ fidN p n ∧ fidN p n < n ∧ p (fidN p n) = true ∧ ∀ j : Int, 0 ≤ j → j < fidN p n → p j = false)
  | 0 => Or.inl ⟨rfl, fun j j0 j1 => absurd j1 (by omega)⟩
  | n + 1 => by
    have ih := fidN_spec p n
    have e : fidN p (n + 1) = if fidN p n = -1 then (if p n then (n : Int) else -1) else fidN p n := rfl
    rw [e]
    rcases ih with ⟨h1, h2⟩ | ⟨h1, h2, h3, h4⟩
    · rw [if_pos h1]
      cases hp : p n with
      | true => exact Or.inr ⟨by simp, by simp; omega, by simpa using hp, fun j j0 j1 => h2 j j0 (by simpa using j1)⟩
      | false =>
        refine Or.inl ⟨by simp, fun j j0 j1 => ?_⟩
        by_cases q : j = n
        · subst q; exact hp
        · exact h2 j j0 (by omega)
    · rw [if_neg (by omega)]
      exact Or.inr ⟨h1, by omega, h3, h4⟩
theorem fidx_spec (p : Int → Bool) {L : Int} (hL : 0 ≤ L) : (fidx p L = -1 ∧ ∀ j, 0 ≤ j → j < L → p j = false) ∨ (0 ≤ fidx p L ∧ fidx p L < L ∧ p (fidx p L) = true ∧ ∀ j, 0 ≤ j → j < fidx p L → p j = false) := by
  have h := fidN_spec p L.toNat
  rw [show (L.toNat : Int) = L by omega] at h
  exact h
theorem dayC_1 (f : Int → Int) (L : Int) : dayC f L 1 = turnC f L := by
  have h := dayC_up f L 0 (Int.le_refl _)
  rw [show (0 : Int) + 1 = 1 by omega, dayC_0] at h
  rw [h, dayF_0]
  omega
theorem dayF_1 (f : Int → Int) (L i : Int) (h : 0 ≤ i) : dayF (dayF f L i) L 1 = dayF f L (i + 1) := by
  rw [dayF_up f L i h]
  rfl
theorem turn_rng {f : Int → Int} {L a b : Int} (hf : ∀ j, 0 ≤ j → j < L → a ≤ f j ∧ f j ≤ b) (j : Int) (h0 : 0 ≤ j) (h1 : j < L) : a ≤ turnD f L j ∧ turnD f L j ≤ b := by
  have e0 := hf j h0 h1
  unfold turnD turn
  split
  · rename_i h
    have q : 0 < pull f L j (j - 1) ∨ 0 < pull f L j (j + 1) := by omega
    rcases q with q | q
    · obtain ⟨x, y, z⟩ := pull_pos q
      have := hf _ x y
      omega
    · obtain ⟨x, y, z⟩ := pull_pos q
      have := hf _ x y
      omega
  · split
    · rename_i h
      have q : pull f L j (j - 1) < 0 ∨ pull f L j (j + 1) < 0 := by omega
      rcases q with q | q
      · obtain ⟨x, y, z⟩ := pull_neg q
        have := hf _ x y
        omega
      · obtain ⟨x, y, z⟩ := pull_neg q
        have := hf _ x y
        omega
    · omega
theorem dayF_rng {f : Int → Int} {L a b : Int} (hf : ∀ j, 0 ≤ j → j < L → a ≤ f j ∧ f j ≤ b) (i : Int) : ∀ j, 0 ≤ j → j < L → a ≤ dayF f L i j ∧ dayF f L i j ≤ b := by
  unfold dayF
  generalize i.toNat = n
  induction n with
  | zero => exact hf
  | succ n ih =>
    intro j h0 h1
    show a ≤ mix (turnD (dayN f L n) L) (dayN f L n) L j ∧ mix (turnD (dayN f L n) L) (dayN f L n) L j ≤ b
    rw [mix_lt _ _ _ _ h0 h1]
    exact turn_rng ih j h0 h1
/-- doubts greater: more could be -/
theorem wz_mono {Dm Dm' : Int → Int} {L : Int} {lo hi su db db' : Int → Int} {S : Int} (hok : okS Dm L lo hi su db S) (hok' : okS Dm' L lo hi su db' S) (h : ∀ n, 0 ≤ n → n < S → db n ≤ db' n) : leL L (wz L lo hi su db S) (wz L lo hi su db' S) := by
  have hE := wz_E hok
  exact Cl_wg hok' (wz_ok hok).Cl ⟨hE.1, fun n n0 n1 => by
    have q1 := hE.2 n n0 n1
    have q2 := h n n0 n1
    omega⟩ _ S hok.2.1.1 (Int.le_refl _)
theorem dNow_mono {L : Int} {X Y : Int → Int → Int} (hL : 0 ≤ L) (h : leL L X Y) : dNow X L ≤ dNow Y L := by
  have h := zs_mono (f := fun j => X j (j + 1) - -(X (j + 1) j)) (g := fun j => Y j (j + 1) - -(Y (j + 1) j)) L.toNat (fun k k0 k1 => by
    have h1 := h k (k + 1) k0 (by omega) (by omega) (by omega)
    have h2 := h (k + 1) k (by omega) (by omega) k0 (by omega)
    show _ - -_ ≤ _ - -_
    omega)
  rw [show (L.toNat : Int) = L by omega] at h
  exact h
theorem Rel.cg {t : Int} {K Dm : Int → Int} {L : Int} {lo hi su db lo' hi' su' db' : Int → Int} {S li : Int} (r : Rel t K Dm L lo hi su db S li K Dm lo hi su db) (h1 : eqI S lo lo') (h2 : eqI S hi hi') (h3 : eqI S su su') (h4 : eqI S db db') : Rel t K Dm L lo' hi' su' db' S li K Dm lo' hi' su' db' := by
  obtain ⟨⟨a1, a2, a3, a4⟩, b, c1, d, -⟩ := r
  exact ⟨⟨a1, a2, a3, fun n n0 n1 => by rw [← h1 n n0 n1, ← h2 n n0 n1, ← h3 n n0 n1, ← h4 n n0 n1]; exact a4 n n0 n1⟩, fun n n0 n1 => by rw [← h4 n n0 n1]; exact b n n0 n1, c1, d, eqI.rf, eqI.rf, eqI.rf, eqI.rf, eqI.rf, eqI.rf⟩
theorem mixI (f g : Int → Int) (L : Int) : eqI L (mix f g L) f := fun j j0 j1 => mix_lt _ _ _ _ j0 j1
theorem mix1 {lo hi B : Int → Int} {S : Int} : eqI S (mix (fun j => B j + (hi j - lo j + 1)) B S) (mix (fun j => B j + 1 * (hi j - lo j + 1)) B S) := fun j j0 j1 => by
  rw [mix_lt _ _ _ _ j0 j1, mix_lt _ _ _ _ j0 j1]
  omega
def EV (Dm : Int → Int) (L v : Int) : Prop := (v = -1 ∧ ∀ j, 0 ≤ j → j < 201 → turnC (dayF Dm L j) L ≠ 0) ∨ (0 ≤ v ∧ v < 201 ∧ turnC (dayF Dm L v) L = 0 ∧ ∀ j, 0 ≤ j → j < v → turnC (dayF Dm L j) L ≠ 0)
theorem even_spec {f Dm : Int → Int} {L : Int} (h : eqI L f Dm) : EV Dm L (fidx (fun j => decide (turnC (dayF f L j) L = 0)) 201) := by
  rw [even_eq h]
  rcases fidx_spec (fun j => decide (turnC (dayF Dm L j) L = 0)) (L := 201) (by omega) with ⟨h1, h2⟩ | ⟨h1, h2, h3, h4⟩
  · exact Or.inl ⟨h1, fun j j0 j1 => of_decide_eq_false (h2 j j0 j1)⟩
  · exact Or.inr ⟨h1, h2, of_decide_eq_true h3, fun j j0 j1 => of_decide_eq_false (h4 j j0 j1)⟩
theorem EV.at {Dm : Int → Int} {L v : Int} (h : EV Dm L v) (k : Int) (k0 : 0 ≤ k) (k1 : k < 201) : (v = -1 → turnC (dayF Dm L k) L ≠ 0) ∧ (k < v → turnC (dayF Dm L k) L ≠ 0) ∧ (k = v → turnC (dayF Dm L k) L = 0) ∧ -1 ≤ v ∧ v < 201 := by
  rcases h with ⟨h1, h2⟩ | ⟨h1, h2, h3, h4⟩
  · exact ⟨fun _ => h2 k k0 k1, fun _ => h2 k k0 k1, fun q => absurd q (by omega), by omega, by omega⟩
  · exact ⟨fun q => absurd q (by omega), fun q => h4 k k0 q, fun q => by rw [q]; exact h3, by omega, h2⟩
theorem known_told {Dm : Int → Int} {L : Int} {lo hi su db : Int → Int} {S : Int} (hok : okS Dm L lo hi su db S) (a b : Int) (a0 : 0 ≤ a) (ab : a ≤ b) (b1 : b < L) (h : a = b) : -(wz L (upZ lo S a) (upZ hi S b) (upZ su S (zs Dm a (b + 1))) (upZ db S 0) (S + 1) (a + 1) a) = wz L (upZ lo S a) (upZ hi S b) (upZ su S (zs Dm a (b + 1))) (upZ db S 0) (S + 1) a (a + 1) := by
  subst h
  obtain ⟨h1, h2⟩ := wz_told_s hok a a a0 ab b1
  rw [h1, h2]
  omega
