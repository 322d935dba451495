/-! ===== both silos at once ===== -/
def IU (t : Int) : GU → Prop
  | (K, Dm, L, lo, hi, su, db, S, dy, li, so, sp, _, _, _, _, _, _, _) => Rel t K Dm L lo hi su db S li K Dm lo hi su db ∧ (0 ≤ dy ∧ dy ≤ 100 * t) ∧ (0 ≤ so ∧ so ≤ t) ∧ 0 ≤ sp ∧ sp ≤ t
theorem IU.mk {t : Int} {K Dm : Int → Int} {L : Int} {lo hi su db : Int → Int} {S dy li so sp : Int} {tu ah : Int → Int} {M : Int → Int → Int} {la sa : Nat} {r q : Nat → Nat} (h1 : Rel t K Dm L lo hi su db S li K Dm lo hi su db) (h2 : 0 ≤ dy ∧ dy ≤ 100 * t) (h3 : 0 ≤ so ∧ so ≤ t) (h4 : 0 ≤ sp ∧ sp ≤ t) : IU t (K, Dm, L, lo, hi, su, db, S, dy, li, so, sp, tu, ah, M, la, sa, r, q) := ⟨h1, h2, h3, h4⟩
theorem Rel.dg {t : Int} {K Dm : Int → Int} {L : Int} {lo hi su db : Int → Int} {S li : Int} {K' Dm' lo' hi' su' db' : Int → Int} (r : Rel t K Dm L lo hi su db S li K' Dm' lo' hi' su' db') : Rel t K Dm L lo hi su db S li K Dm lo hi su db :=
  ⟨r.1, r.2.1, r.2.2.1, r.2.2.2.1, fun _ _ _ => rfl, fun _ _ _ => rfl, fun _ _ _ => rfl, fun _ _ _ => rfl, fun _ _ _ => rfl, fun _ _ _ => rfl⟩
theorem wS_eq {c1 c2 : ClassId} {o la sa : Nat} {r q : Nat → Nat} {dy li so sp L : Int} {K Dm : Int → Int} {S : Int} {lo hi su db K' Dm' lo' hi' su' db' : Int → Int} (h1 : eqI L K K') (h2 : eqI L Dm Dm') (h3 : eqI S lo lo') (h4 : eqI S hi hi') (h5 : eqI S su su') (h6 : eqI S db db') : wS c1 c2 o la sa r q dy li so sp L K Dm S lo hi su db = wS c1 c2 o la sa r q dy li so sp L K' Dm' S lo' hi' su' db' := by
  unfold wS
  rw [gB_eq (c1 := c1) (r := r) (r' := r) (n := L.toNat) (m := 2) (F := fL K Dm) (G := fL K' Dm') (fun j hj => ⟨rfl, by unfold fL; rw [h1 j (by omega) (by omega), h2 j (by omega) (by omega)]⟩)]
  rw [gB_eq (c1 := c1) (r := q) (r' := q) (n := S.toNat) (m := 4) (F := fS lo hi su db) (G := fS lo' hi' su' db') (fun j hj => ⟨rfl, by unfold fS; rw [h3 j (by omega) (by omega), h4 j (by omega) (by omega), h5 j (by omega) (by omega), h6 j (by omega) (by omega)]⟩)]
theorem eqI.rf {n : Int} {f : Int → Int} : eqI n f f := fun _ _ _ => rfl
theorem cmpN_pq {p q : Int → Bool} (f : Int → Int) : ∀ n : Nat, (∀ j : Int, 0 ≤ j → j < n → p j = q j) → cmpN p f n = cmpN q f n
  | 0, _ => rfl
  | n + 1, h => by
    have e := cmpN_pq f n (fun j j0 j1 => h j j0 (by omega))
    have z : zc p 0 n = zc q 0 n := zc_eq 0 n (fun j j0 j1 => h j j0 (by omega))
    show (if p (n : Int) then upZ (cmpN p f n) (zc p 0 n) (f n) else cmpN p f n) = (if q (n : Int) then upZ (cmpN q f n) (zc q 0 n) (f n) else cmpN q f n)
    rw [e, z, h n (by omega) (by omega)]
theorem cmp_pq {p q : Int → Bool} (f : Int → Int) (S : Int) (h : ∀ j, 0 ≤ j → j < S → p j = q j) : cmp p f S = cmp q f S := cmpN_pq f _ (fun j j0 j1 => h j j0 (by omega))
def qO (lo hi : Int → Int) (S : Int) : Int → Bool := fun j => decide (0 < mix (fun j => if lo j = 0 ∧ 0 < hi j then 1 else lo j) lo S j)
theorem out_eq {t : Int} {K Dm : Int → Int} {L : Int} {lo hi su db : Int → Int} {S li : Int} (r : Rel t K Dm L lo hi su db S li K Dm lo hi su db) :
    zc (pH hi) 0 S = zc (qO lo hi S) 0 S ∧ eqI (zc (qO lo hi S) 0 S) (cmp (pH hi) (cutL lo) S) (mix (fun j => (cmp (qO lo hi S) (mix (fun j => if lo j = 0 ∧ 0 < hi j then 1 else lo j) lo S) S) j - 1) (cmp (qO lo hi S) (mix (fun j => if lo j = 0 ∧ 0 < hi j then 1 else lo j) lo S) S) (zc (qO lo hi S) 0 S))
    ∧ eqI (zc (qO lo hi S) 0 S) (cmp (pH hi) (low1 hi) S) (mix (fun j => (cmp (qO lo hi S) hi S) j - 1) (cmp (qO lo hi S) hi S) (zc (qO lo hi S) 0 S))
    ∧ eqI (zc (qO lo hi S) 0 S) (cmp (pH hi) (cutS lo su (Dm 0)) S) (cmp (qO lo hi S) (mix (fun j => if lo j = 0 ∧ 0 < hi j then su j - (Dm 0) else su j) su S) S)
    ∧ eqI (zc (qO lo hi S) 0 S) (cmp (pH hi) db S) (cmp (qO lo hi S) db S) := by
  obtain ⟨⟨hL, ⟨hS0, hS⟩, hf, hs⟩, -⟩ := r
  have pq : ∀ j, 0 ≤ j → j < S → pH hi j = qO lo hi S j := fun j j0 j1 => by
    have s := hs j j0 j1
    unfold pH qO
    rw [mix_lt _ _ _ _ j0 j1]
    refine decide_eq_decide.mpr ?_
    show _ ↔ (0 < if lo j = 0 ∧ 0 < hi j then (1 : Int) else lo j)
    split <;> omega
  have src := cmp_src (qO lo hi S) S hS0
  refine ⟨zc_eq 0 S pq, fun j j0 j1 => ?_, fun j j0 j1 => ?_, fun j j0 j1 => ?_, fun j j0 j1 => ?_⟩
  · obtain ⟨x, x0, x1, xq, e⟩ := src j j0 j1
    rw [cmp_pq _ S pq, e, mix_lt _ _ _ _ j0 j1]
    show cutL lo x = cmp _ _ S j - 1
    rw [e, mix_lt _ _ _ _ x0 x1]
    have s := hs x x0 x1
    rw [← pq x x0 x1] at xq
    have xh : hi x ≠ 0 := of_decide_eq_true xq
    unfold cutL
    by_cases c : lo x = 0
    · rw [if_pos c, if_pos ⟨c, by omega⟩]; rfl
    · rw [if_neg c, if_neg (by omega)]
  · obtain ⟨x, x0, x1, xq, e⟩ := src j j0 j1
    rw [cmp_pq _ S pq, e, mix_lt _ _ _ _ j0 j1]
    show low1 hi x = cmp _ _ S j - 1
    rw [e]
    rfl
  · obtain ⟨x, x0, x1, xq, e⟩ := src j j0 j1
    rw [cmp_pq _ S pq, e, e, mix_lt _ _ _ _ x0 x1]
    have s := hs x x0 x1
    rw [← pq x x0 x1] at xq
    have xh : hi x ≠ 0 := of_decide_eq_true xq
    unfold cutS
    by_cases c : lo x = 0
    · rw [if_pos c, if_pos ⟨c, by omega⟩]
    · rw [if_neg c, if_neg (by omega)]
  · rw [cmp_pq _ S pq]
theorem skF_shf {f : Int → Int} {L : Int} : eqI (L - 1) (skF f 0) (shf f L) := fun j j0 j1 => by
  unfold skF shf
  rw [if_neg (by omega), if_pos (by omega)]
theorem turn_eq' {lo hi su db : Int → Int} {S : Int} (hS0 : 0 ≤ S) : eqI (zc (pL lo) 0 S) (cmp (pL lo) (low1 lo) S) (mix (fun j => (cmp (pL lo) lo S) j - 1) (cmp (pL lo) lo S) (zc (pL lo) 0 S)) ∧ eqI (zc (pL lo) 0 S) (cmp (pL lo) (low1 hi) S) (mix (fun j => (cmp (pL lo) hi S) j - 1) (cmp (pL lo) hi S) (zc (pL lo) 0 S)) := by
  have src := cmp_src (pL lo) S hS0
  refine ⟨fun j j0 j1 => ?_, fun j j0 j1 => ?_⟩
  · obtain ⟨x, x0, x1, xq, e⟩ := src j j0 j1
    rw [e, mix_lt _ _ _ _ j0 j1]
    show low1 lo x = cmp _ _ S j - 1
    rw [e]; rfl
  · obtain ⟨x, x0, x1, xq, e⟩ := src j j0 j1
    rw [e, mix_lt _ _ _ _ j0 j1]
    show low1 hi x = cmp _ _ S j - 1
    rw [e]; rfl
theorem turn_top {f : Int → Int} {L : Int} (v : Int) : eqI L (upZ (skF f 0) (L - 1) v) (upZ (shf f L) (L - 1) v) := fun j j0 j1 => by
  by_cases e : j = L - 1
  · subst e; rw [upZ_s, upZ_s]
  · rw [upZ_n e, upZ_n e]
    exact skF_shf j j0 (by omega)
theorem thr_eq {f : Int → Int} {S a : Int} (a0 : 0 ≤ a) : eqI (S - 1) (skF f a.toNat) (shA f a S) := fun j j0 j1 => by
  unfold skF shA
  by_cases h : j < a
  · rw [if_pos (by omega), if_neg (by omega)]
  · rw [if_neg (by omega), if_pos (by omega)]
def dbK (lo hi db : Int → Int) (k : Int) : Int → Int := fun j => db j + k * (hi j - lo j + 1)
theorem dbK_0 {lo hi db : Int → Int} {S : Int} : eqI S db (dbK lo hi db 0) := fun j _ _ => by unfold dbK; omega
theorem dbK_up {lo hi db : Int → Int} {S k : Int} : eqI S (mix (fun j => dbK lo hi db k j + (hi j - lo j + 1)) (dbK lo hi db k) S) (dbK lo hi db (k + 1)) := fun j j0 j1 => by
  rw [mix_lt _ _ _ _ j0 j1]
  unfold dbK
  rw [Int.add_mul]
  omega
theorem dbK_fin {lo hi db : Int → Int} {S k : Int} : eqI S (dbK lo hi db k) (mix (fun j => db j + k * (hi j - lo j + 1)) db S) := fun j j0 j1 => by
  rw [mix_lt _ _ _ _ j0 j1]
  rfl
theorem dayC_in (f : Int → Int) (L : Int) (hL0 : 0 ≤ L) (hL : L ≤ 12) (n : Nat) : 0 ≤ dayC f L n ∧ dayC f L n ≤ 12 * n := by
  induction n with
  | zero => rw [show ((0 : Nat) : Int) = 0 by omega, dayC_0]; omega
  | succ n ih =>
    rw [show ((n + 1 : Nat) : Int) = (n : Int) + 1 by omega, dayC_up _ _ _ (by omega)]
    have := zc_le (fun j => decide (turn (dayF f L n) L j ≠ 0)) 0 L hL0
    unfold turnC
    omega
theorem dayC_in' (f : Int → Int) (L : Int) (hL0 : 0 ≤ L) (hL : L ≤ 12) (i : Int) (h : 0 ≤ i) : 0 ≤ dayC f L i ∧ dayC f L i ≤ 12 * i := by
  have := dayC_in f L hL0 hL i.toNat
  rw [show (i.toNat : Int) = i by omega] at this
  exact this
