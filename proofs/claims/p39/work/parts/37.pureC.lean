/-! ===== Sim's samples as layers go; a day by hand ===== -/
def pH (hi : Int → Int) : Int → Bool := fun j => decide (hi j ≠ 0)
def pL (lo : Int → Int) : Int → Bool := fun j => decide (0 < lo j)
def cutL (lo : Int → Int) : Int → Int := fun j => if lo j = 0 then 0 else lo j - 1
def cutS (lo su : Int → Int) (d : Int) : Int → Int := fun j => if lo j = 0 then su j - d else su j
def low1 (f : Int → Int) : Int → Int := fun j => f j - 1
section SK
variable {p : Program} {l : Launch} {e : Env} {R : Room} {s : State} {m : MethodId} {args : Array Value} {below : List Frame} {meth : Method} {c : Code} {nL : Nat} {D : va_G} {A : Nat → Prop} {cells slots : Nat} {Q : State → Prop} {lv : List (Nat × Value)} {pc : Nat} {st : List Value} {c1 c2 : ClassId} {wr : va_W}
theorem J.skipL {r : Nat → Nat} {L : Int} {K Dm : Int → Int} (one : Nat) (h : (one : Int) < L) (k : J p l e R s m args below meth c nL D A cells slots Q (gB c1 (sk r one) (L - 1).toNat 2 (fL (skF K one) (skF Dm one)) ++ wr) lv pc st) : J p l e R s m args below meth c nL D A cells slots Q (gB c1 r L.toNat 2 (fL K Dm) ++ wr) lv pc st := by
  refine J.sub (ws' := gB c1 (sk r one) (L - 1).toNat 2 (fL (skF K one) (skF Dm one)) ++ wr) (rest := gA c1 (r one) 2 (fL K Dm (one : Int))) ?_ k
  have h1 := gB_skip (c1 := c1) (r := r) (n := L.toNat) (m := 2) (F := fL K Dm) (one := one) (by omega)
  rw [skF_fL, show L.toNat - 1 = (L - 1).toNat by omega] at h1
  refine (h1.append_right wr).trans (perm_of_count (fun cnt h1_ h0_ => by simp only [h1_]; omega))
theorem J.skipS {r : Nat → Nat} {S : Int} {lo hi su db : Int → Int} (one : Nat) (h : (one : Int) < S) (k : J p l e R s m args below meth c nL D A cells slots Q (gB c1 (sk r one) (S - 1).toNat 4 (fS (skF lo one) (skF hi one) (skF su one) (skF db one)) ++ wr) lv pc st) : J p l e R s m args below meth c nL D A cells slots Q (gB c1 r S.toNat 4 (fS lo hi su db) ++ wr) lv pc st := by
  refine J.sub (ws' := gB c1 (sk r one) (S - 1).toNat 4 (fS (skF lo one) (skF hi one) (skF su one) (skF db one)) ++ wr) (rest := gA c1 (r one) 4 (fS lo hi su db (one : Int))) ?_ k
  have h1 := gB_skip (c1 := c1) (r := r) (n := S.toNat) (m := 4) (F := fS lo hi su db) (one := one) (by omega)
  rw [skF_fS, show S.toNat - 1 = (S - 1).toNat by omega] at h1
  refine (h1.append_right wr).trans (perm_of_count (fun cnt h1_ h0_ => by simp only [h1_]; omega))
theorem J.turnL {r : Nat → Nat} {L : Int} {K Dm : Int → Int} (h : 1 ≤ L) (k : J p l e R s m args below meth c nL D A cells slots Q (gB c1 (fun j => if j < (L - 1).toNat then sk r 0 j else r 0) L.toNat 2 (fL (upZ (skF K 0) (L - 1) (K 0)) (upZ (skF Dm 0) (L - 1) (Dm 0))) ++ wr) lv pc st) : J p l e R s m args below meth c nL D A cells slots Q (gB c1 r L.toNat 2 (fL K Dm) ++ wr) lv pc st := by
  have h1 := gB_skip (c1 := c1) (r := r) (n := L.toNat) (m := 2) (F := fL K Dm) (one := 0) (by omega)
  rw [gB_pushA, skF_fL, show L.toNat - 1 = (L - 1).toNat by omega, show (L - 1).toNat + 1 = L.toNat by omega, show (((L - 1).toNat : Nat) : Int) = L - 1 by omega] at h1
  have e : upR (fL (skF K 0) (skF Dm 0)) (L - 1) (fL K Dm ((0 : Nat) : Int)) = fL (upZ (skF K 0) (L - 1) (K 0)) (upZ (skF Dm 0) (L - 1) (Dm 0)) := upR_fL _ _ _ _ _
  rw [e] at h1
  exact J.perm (h1.append_right wr) k
end SK
theorem trn_in {f : Int → Int} {L i : Int} (h0 : 0 ≤ i) (h1 : i < L) : pull f L i (i - 1) = (if 0 < i ∧ f i + 1 < f (i - 1) then 1 else 0) - (if 0 < i ∧ f (i - 1) < f i - 1 then 1 else 0) ∧ pull f L i (i + 1) = (if i + 1 < L ∧ f i + 1 < f (i + 1) then 1 else 0) - (if i + 1 < L ∧ f (i + 1) < f i - 1 then 1 else 0) := by
  refine ⟨?_, ?_⟩
  · unfold pull
    by_cases a : 0 < i
    · rw [if_neg (by omega)]
      by_cases b : f i + 1 < f (i - 1)
      · rw [if_pos (by omega), if_pos ⟨a, b⟩, if_neg (by omega)]; rfl
      · by_cases d : f (i - 1) < f i - 1
        · rw [if_neg (by omega), if_pos (by omega), if_neg (by omega), if_pos ⟨a, d⟩]; rfl
        · rw [if_neg (by omega), if_neg (by omega), if_neg (by omega), if_neg (by omega)]; rfl
    · rw [if_pos (by omega), if_neg (by omega), if_neg (by omega)]; rfl
  · unfold pull
    by_cases a : i + 1 < L
    · rw [if_neg (by omega)]
      by_cases b : f i + 1 < f (i + 1)
      · rw [if_pos (by omega), if_pos ⟨a, b⟩, if_neg (by omega)]; rfl
      · by_cases d : f (i + 1) < f i - 1
        · rw [if_neg (by omega), if_pos (by omega), if_neg (by omega), if_pos ⟨a, d⟩]; rfl
        · rw [if_neg (by omega), if_neg (by omega), if_neg (by omega), if_neg (by omega)]; rfl
    · rw [if_pos (by omega), if_neg (by omega), if_neg (by omega)]; rfl
def eU (f : Int → Int) (i : Int) : Int := if 0 < i ∧ f i + 1 < f (i - 1) then 1 else 0
def eV' (f : Int → Int) (L i : Int) : Int := if i + 1 < L ∧ f i + 1 < f (i + 1) then 1 else 0
def eW (f : Int → Int) (i : Int) : Int := if 0 < i ∧ f (i - 1) < f i - 1 then 1 else 0
def eX (f : Int → Int) (L i : Int) : Int := if i + 1 < L ∧ f (i + 1) < f i - 1 then 1 else 0
theorem trn_eq {f : Int → Int} {L i : Int} (h0 : 0 ≤ i) (h1 : i < L) : turn f L i = if 0 < (eU f i + eV' f L i) - (eW f i + eX f L i) then 1 else if (eU f i + eV' f L i) - (eW f i + eX f L i) < 0 then -1 else 0 := by
  obtain ⟨a, b⟩ := trn_in (f := f) (L := L) (i := i) h0 h1
  have e : pull f L i (i - 1) + pull f L i (i + 1) = (eU f i + eV' f L i) - (eW f i + eX f L i) := by
    rw [a, b]
    unfold eU eV' eW eX
    omega
  unfold turn
  rw [e]
theorem trn_ne {f : Int → Int} {L i : Int} (h0 : 0 ≤ i) (h1 : i < L) (h : eU f i + eV' f L i ≠ eW f i + eX f L i) : turn f L i ≠ 0 := by
  rw [trn_eq h0 h1]
  split
  · omega
  · rw [if_pos (by omega)]; omega
theorem trn_z {f : Int → Int} {L i : Int} (h0 : 0 ≤ i) (h1 : i < L) (h : eU f i + eV' f L i = eW f i + eX f L i) : turn f L i = 0 := by
  rw [trn_eq h0 h1, if_neg (by omega), if_neg (by omega)]
theorem e_in (f : Int → Int) (L i : Int) : (0 ≤ eU f i ∧ eU f i ≤ 1) ∧ (0 ≤ eV' f L i ∧ eV' f L i ≤ 1) ∧ (0 ≤ eW f i ∧ eW f i ≤ 1) ∧ (0 ≤ eX f L i ∧ eX f L i ≤ 1) := by
  unfold eU eV' eW eX
  refine ⟨?_, ?_, ?_, ?_⟩ <;> split <;> omega
theorem zc_trn (f : Int → Int) (L i : Int) (h : 0 ≤ i) : zc (fun j => decide (turn f L j ≠ 0)) 0 (i + 1) = zc (fun j => decide (turn f L j ≠ 0)) 0 i + (if turn f L i = 0 then 0 else 1) := by
  by_cases q : turn f L i = 0
  · rw [if_pos q, zc_f _ 0 i h (by simp [q])]; omega
  · rw [if_neg q, zc_t _ 0 i h (by simp [q])]
