/-! ===== the law's own numbers ===== -/
def bl (v n : Int) : Int := ((((zI v).toBitVec.toNat % 2 ^ 31) % n.toNat : Nat) : Int)
theorem bl_in {v n : Int} (h : 1 ≤ n) : 0 ≤ bl v n ∧ bl v n < n := by
  unfold bl
  have := Nat.mod_lt ((zI v).toBitVec.toNat % 2 ^ 31) (show 0 < n.toNat by omega)
  omega
theorem bl_eq (v n : Int) (h : 1 ≤ n) (h1 : n < 2147483648) : (zI v &&& zI 2147483647) - (zI v &&& zI 2147483647) / zI n * zI n = zI (bl v n) := by
  have e0 : zI 2147483647 = (2147483647 : Int32) := by decide +kernel
  obtain ⟨k, rfl⟩ := Int.eq_ofNat_of_zero_le (show 0 ≤ n by omega)
  have hm := Nat.mod_lt ((zI v).toBitVec.toNat) (show 0 < 2 ^ 31 by decide)
  have hk := Nat.mod_lt ((zI v).toBitVec.toNat % 2 ^ 31) (show 0 < k by omega)
  rw [e0, pk_and (zI v) (m := 2147483647) 31 (by decide +kernel), zI_nI (n := k) (by omega), pk_rem (by omega) (by omega) (by omega)]
  unfold bl
  rw [show ((k : Int)).toNat = k by omega, zI_nI (by omega)]
def sh (v k : Int) : Int := (zI v >>> (zI k &&& 31)).toInt
theorem sh_eq (v k : Int) : zI v >>> (zI k &&& 31) = zI (sh v k) := (zI_of _).symm
def cv (xs : Nat → Int32) (n : Nat) (c k : Int) : Int := if k < (n : Int) then (xs k.toNat).toInt else c * (k + 3)
/-! ===== worlds: parts of them ===== -/
def rowL (k d : Int) : Int → Int := fun j => if j = 0 then k else d
def rowS (a b u v : Int) : Int → Int := fun j => if j = 0 then a else if j = 1 then b else if j = 2 then u else v
/-- Sim's own cell -/
def gO (o la sa : Nat) (dy li so sp : Int) : va_W := [(o, .inr (1, [.int (zI dy), .int (zI li), .int (zI so), .int (zI sp), .ref la, .ref sa]))]
/-- an array of references to rows -/
def gR (c2 : ClassId) (a : Nat) (n : Nat) (f : Nat → Nat) : va_W := [(a, .inl (c2, n, .inr (.inr (.inr (.inr (fun j => some (f j)))))))]
/-- an array of ints -/
def gA (c1 : ClassId) (a : Nat) (n : Nat) (f : Int → Int) : va_W := [(a, .inl (c1, n, .inl (zA f)))]
/-- rows of ints -/
def gB (c1 : ClassId) (r : Nat → Nat) (n m : Nat) (F : Int → Int → Int) : va_W := (List.range n).map fun (j : Nat) => (r j, .inl (c1, m, .inl (zA (F (j : Int)))))
def fL (K Dm : Int → Int) : Int → Int → Int := fun j => rowL (K j) (Dm j)
def fS (lo hi su db : Int → Int) : Int → Int → Int := fun j => rowS (lo j) (hi j) (su j) (db j)
theorem gB_eq {c1 : ClassId} {r r' : Nat → Nat} {n m : Nat} {F G : Int → Int → Int} (h : ∀ j : Nat, j < n → r j = r' j ∧ F (j : Int) = G (j : Int)) : gB c1 r n m F = gB c1 r' n m G := by
  unfold gB
  apply List.map_congr_left
  intro j hj
  obtain ⟨e1, e2⟩ := h j (List.mem_range.mp hj)
  rw [e1, e2]
theorem gB_at {c1 : ClassId} {r : Nat → Nat} {n m : Nat} {F : Int → Int → Int} {i : Int} (h0 : 0 ≤ i) (h1 : i < (n : Int)) : (gB c1 r n m F)[i.toNat]? = some (r i.toNat, .inl (c1, m, .inl (zA (F i)))) := by
  obtain ⟨j, rfl⟩ := Int.eq_ofNat_of_zero_le h0
  have hj : j < n := by omega
  unfold gB
  rw [show ((j : Int)).toNat = j by omega, List.getElem?_map, List.getElem?_range hj]
  rfl
theorem gB_len {c1 : ClassId} {r : Nat → Nat} {n m : Nat} {F : Int → Int → Int} : (gB c1 r n m F).length = n := by unfold gB; simp
theorem gB_set {c1 : ClassId} {r : Nat → Nat} {n m : Nat} {F : Int → Int → Int} {i : Int} (h0 : 0 ≤ i) (_h1 : i < (n : Int)) (g : Int → Int) : (gB c1 r n m F).set i.toNat (r i.toNat, .inl (c1, m, .inl (zA g))) = gB c1 r n m (upR F i g) := by
  obtain ⟨j, rfl⟩ := Int.eq_ofNat_of_zero_le h0
  apply List.ext_getElem?
  intro k
  rw [show ((j : Int)).toNat = j by omega, List.getElem?_set]
  unfold gB
  rw [List.getElem?_map, List.getElem?_map, List.length_map, List.length_range]
  by_cases hk : k < n
  · rw [List.getElem?_range hk]
    by_cases e : j = k
    · subst e
      rw [if_pos rfl, if_pos hk]
      simp [upR]
    · rw [if_neg e]
      have e2 : ¬ ((k : Int) = (j : Int)) := by omega
      simp [upR, e2]
  · rw [List.getElem?_eq_none (by rw [List.length_range]; omega)]
    by_cases e : j = k
    · subst e
      rw [if_pos rfl, if_neg hk]
      rfl
    · rw [if_neg e]
      rfl
/-- one row more -/
theorem gB_push {c1 : ClassId} {r : Nat → Nat} {n m : Nat} {F : Int → Int → Int} (a : Nat) (g : Int → Int) : gB c1 r n m F ++ [(a, .inl (c1, m, .inl (zA g)))] = gB c1 (fun j => if j < n then r j else a) (n + 1) m (upR F (n : Int) g) := by
  unfold gB
  rw [List.range_succ, List.map_append]
  congr 1
  · apply List.map_congr_left
    intro j hj
    have hj := List.mem_range.mp hj
    have e2 : ¬ ((j : Int) = (n : Int)) := by omega
    simp [hj, upR, e2]
  · simp [upR]
theorem upR_fL (K Dm : Int → Int) (i k d : Int) : upR (fL K Dm) i (rowL k d) = fL (upZ K i k) (upZ Dm i d) := by
  funext a
  unfold upR fL upZ
  by_cases h : a = i
  · simp [h]
  · simp [h]
theorem upR_fS (lo hi su db : Int → Int) (i a b u v : Int) : upR (fS lo hi su db) i (rowS a b u v) = fS (upZ lo i a) (upZ hi i b) (upZ su i u) (upZ db i v) := by
  funext x
  unfold upR fS upZ
  by_cases h : x = i
  · simp [h]
  · simp [h]
/-- places in a joined world -/
theorem At.r {A B : va_W} {k : Nat} {x : Nat × va_E} (h : B[k]? = some x) : (A ++ B)[A.length + k]? = some x := by
  rw [List.getElem?_append_right (by omega), show A.length + k - A.length = k by omega]
  exact h
theorem At.l {A B : va_W} {k : Nat} {x : Nat × va_E} (h : A[k]? = some x) : (A ++ B)[k]? = some x := by
  rw [List.getElem?_append_left (List.getElem?_eq_some_iff.mp h).1]
  exact h
theorem Pu.r {A B B' : va_W} {k : Nat} {x : Nat × va_E} (h : B.set k x = B') : (A ++ B).set (A.length + k) x = A ++ B' := by
  rw [List.set_append, if_neg (by omega), show A.length + k - A.length = k by omega, h]
theorem Pu.l {A A' B : va_W} {k : Nat} {x y : Nat × va_E} (hk : A[k]? = some y) (h : A.set k x = A') : (A ++ B).set k x = A' ++ B := by
  rw [List.set_append, if_pos (List.getElem?_eq_some_iff.mp hk).1, h]
theorem gA_set {c1 : ClassId} {a n : Nat} {f g : Int → Int} : (gA c1 a n f).set 0 (a, .inl (c1, n, .inl (zA g))) = gA c1 a n g := rfl
/-! ===== rows ===== -/
section SR
variable {p : Program} {l : Launch} {e : Env} {R : Room} {s : State} {m : MethodId} {args : Array Value} {below : List Frame} {meth : Method} {c : Code} {cc : ByteArray} {nL : Nat} {own : String} {Ts : List Cond} {D : va_G} {tys : List (ClassId × FieldType)} {A : Nat → Prop} {cells slots : Nat} {Q : State → Prop} {ws : va_W} {lv : List (Nat × Value)} {pc : Nat} {st : List Value}
theorem va_D.nd {ws : va_W} (h : va_D A ws) : (ws.map Prod.fst).Nodup := by
  refine List.pairwise_iff_getElem.mpr (fun i j hi hj hij he => ?_)
  rw [List.length_map] at hi hj
  rw [List.getElem_map, List.getElem_map] at he
  have := h.1 i j _ _ (List.getElem?_eq_getElem hi) (List.getElem?_eq_getElem hj) he
  omega
theorem va_D.of_nd {ws : va_W} (h : (ws.map Prod.fst).Nodup) (hA : ∀ q ∈ ws, A q.1) : va_D A ws := by
  refine ⟨fun i j x y hi hj hxy => ?_, fun k q hq => hA q (List.mem_of_getElem? hq)⟩
  have h := List.pairwise_iff_getElem.mp h
  have key : ∀ i j : Nat, i < j → ∀ x y, ws[i]? = some x → ws[j]? = some y → x.1 ≠ y.1 := fun i j hij x y hx hy q => by
    obtain ⟨l1, e1⟩ := List.getElem?_eq_some_iff.mp hx
    obtain ⟨l2, e2⟩ := List.getElem?_eq_some_iff.mp hy
    refine h i j (by rw [List.length_map]; exact l1) (by rw [List.length_map]; exact l2) hij ?_
    rw [List.getElem_map, List.getElem_map, e1, e2]
    exact q
  rcases Nat.lt_trichotomy i j with h1 | h1 | h1
  · exact absurd hxy (key i j h1 x y hi hj)
  · exact h1
  · exact absurd hxy.symm (key j i h1 y x hj hi)
/-- the same cells, in another order -/
theorem J.perm {ws' : va_W} (h : ws.Perm ws') (k : J p l e R s m args below meth c nL D A cells slots Q ws' lv pc st) : J p l e R s m args below meth c nL D A cells slots Q ws lv pc st := by
  intro H locs ls hP hD hS hl
  refine k H locs ls (fun i q hi => ?_) (va_D.of_nd ((h.map Prod.fst).nodup_iff.mp hD.nd) (fun q hq => ?_)) hS hl
  · obtain ⟨j, hj⟩ := List.mem_iff_getElem?.mp (h.symm.mem_iff.mp (List.mem_of_getElem? hi))
    exact hP j q hj
  · obtain ⟨j, hj⟩ := List.mem_iff_getElem?.mp (h.symm.mem_iff.mp hq)
    exact hD.2 j q hj
theorem J.tail {a b : va_W} (k : J p l e R s m args below meth c nL D A cells slots Q b lv pc st) : J p l e R s m args below meth c nL D A cells slots Q (a ++ b) lv pc st := J.swap (J.drop k)
/-- drop all but what is in ws' -/
theorem J.sub {ws' rest : va_W} (h : ws.Perm (ws' ++ rest)) (k : J p l e R s m args below meth c nL D A cells slots Q ws' lv pc st) : J p l e R s m args below meth c nL D A cells slots Q ws lv pc st := J.perm h (J.drop k)
theorem J.join {X : Type} (F : X → va_W) (G : X → List (Nat × Value)) (T : X → List Value) (P : X → Prop) (pcj : Nat) (kc ks : Nat) (later : ∀ x, P x → J p l e R s m args below meth c nL D A kc ks Q (F x) (G x) pcj (T x)) (now : (∀ x, P x → J p l e R s m args below meth c nL D A kc ks Q (F x) (G x) pcj (T x)) → J p l e R s m args below meth c nL D A cells slots Q ws lv pc st) : J p l e R s m args below meth c nL D A cells slots Q ws lv pc st := now later
/-- a loop that counts up; what is made in it is counted, what it leaves is any of X -/
theorem j_loop {X : Type} (F : Int → X → va_W) (G : Int → X → List (Nat × Value)) (I : Int → X → Prop) (kc ks : Int → Nat) (a b : Int) (hab : a ≤ b)
    (step : ∀ i x, a ≤ i → i < b → I i x → (∀ y, I (i + 1) y → J p l e R s m args below meth c nL D A (kc (i + 1)) (ks (i + 1)) Q (F (i + 1) y) (G (i + 1) y) pc st) → J p l e R s m args below meth c nL D A (kc i) (ks i) Q (F i x) (G i x) pc st)
    (last : ∀ x, I b x → J p l e R s m args below meth c nL D A (kc b) (ks b) Q (F b x) (G b x) pc st) : ∀ x, I a x → J p l e R s m args below meth c nL D A (kc a) (ks a) Q (F a x) (G a x) pc st := by
  suffices K : ∀ (n : Nat) (i : Int), a ≤ i → i ≤ b → (b - i).toNat = n → ∀ x, I i x → J p l e R s m args below meth c nL D A (kc i) (ks i) Q (F i x) (G i x) pc st from K _ a (Int.le_refl _) hab rfl
  intro n
  induction n with
  | zero =>
    intro i h1 h2 h3 x h4
    have e0 : i = b := by omega
    subst e0
    exact last x h4
  | succ n ih =>
    intro i h1 h2 h3 x h4
    exact step i x h1 (by omega) h4 (fun y h5 => ih (i + 1) (by omega) (by omega) (by omega) y h5)
/-- a loop that counts down -/
theorem j_down {X : Type} (F : Int → X → va_W) (G : Int → X → List (Nat × Value)) (I : Int → X → Prop) (kc ks : Int → Nat) (a b : Int) (hab : b ≤ a)
    (step : ∀ i x, b < i → i ≤ a → I i x → (∀ y, I (i - 1) y → J p l e R s m args below meth c nL D A (kc (i - 1)) (ks (i - 1)) Q (F (i - 1) y) (G (i - 1) y) pc st) → J p l e R s m args below meth c nL D A (kc i) (ks i) Q (F i x) (G i x) pc st)
    (last : ∀ x, I b x → J p l e R s m args below meth c nL D A (kc b) (ks b) Q (F b x) (G b x) pc st) : ∀ x, I a x → J p l e R s m args below meth c nL D A (kc a) (ks a) Q (F a x) (G a x) pc st := by
  suffices K : ∀ (n : Nat) (i : Int), b ≤ i → i ≤ a → (i - b).toNat = n → ∀ x, I i x → J p l e R s m args below meth c nL D A (kc i) (ks i) Q (F i x) (G i x) pc st from K _ a hab (Int.le_refl _) rfl
  intro n
  induction n with
  | zero =>
    intro i h1 h2 h3 x h4
    have e0 : i = b := by omega
    subst e0
    exact last x h4
  | succ n ih =>
    intro i h1 h2 h3 x h4
    exact step i x (by omega) h2 h4 (fun y h5 => ih (i - 1) (by omega) (by omega) (by omega) y h5)
/-- a loop with a measure -/
theorem j_while {X : Type} (F : X → va_W) (G : X → List (Nat × Value)) (I : X → Prop) (mu : X → Nat)
    (step : ∀ x, I x → (∀ y, I y → mu y < mu x → J p l e R s m args below meth c nL D A cells slots Q (F y) (G y) pc st) → J p l e R s m args below meth c nL D A cells slots Q (F x) (G x) pc st) : ∀ x, I x → J p l e R s m args below meth c nL D A cells slots Q (F x) (G x) pc st := by
  suffices K : ∀ (n : Nat) (x : X), mu x ≤ n → I x → J p l e R s m args below meth c nL D A cells slots Q (F x) (G x) pc st from fun x hx => K _ x (Nat.le_refl _) hx
  intro n
  induction n with
  | zero => exact fun x h1 h2 => step x h2 (fun y _ h4 => absurd h4 (by omega))
  | succ n ih => exact fun x h1 h2 => step x h2 (fun y h3 h4 => ih y (by omega) h3)
theorem j_iand (C : GC p s m args meth c cc nL own Ts D tys A) {x y : Int32} (dg : decode cc pc = .ok (.iand, 1))
    (k : J p l e R s m args below meth c nL D A cells slots Q ws lv (pc + 1) (.int (x &&& y) :: st)) : J p l e R s m args below meth c nL D A cells slots Q ws lv pc (.int y :: .int x :: st) :=
  fun H locs ls hP hD hS hl => lv_iand C.1 C.2.1 dg (k H locs ls hP hD hS hl)
theorem j_irem (C : GC p s m args meth c cc nL own Ts D tys A) {x y v : Int32} (hne : ¬ y = 0) (hv : x - x / y * y = v) (dg : decode cc pc = .ok (.irem, 1))
    (k : J p l e R s m args below meth c nL D A cells slots Q ws lv (pc + 1) (.int v :: st)) : J p l e R s m args below meth c nL D A cells slots Q ws lv pc (.int y :: .int x :: st) := by
  subst hv
  exact fun H locs ls hP hD hS hl => lv_irem C.1 C.2.1 dg hne (k H locs ls hP hD hS hl)
theorem j_lcmp0 (C : GC p s m args meth c cc nL own Ts D tys A) {x y : Int64} (hxy : x = y) (dg : decode cc pc = .ok (.lcmp, 1))
    (k : J p l e R s m args below meth c nL D A cells slots Q ws lv (pc + 1) (.int (zI 0) :: st)) : J p l e R s m args below meth c nL D A cells slots Q ws lv pc (.long y :: .long x :: st) := by
  subst hxy
  have e : lg_cmp x x = zI 0 := by rw [zI_0]; simp [lg_cmp]
  exact fun H locs ls hP hD hS hl => W.lcmp C.1 C.2.1 dg (by rw [e]; exact k H locs ls hP hD hS hl)
theorem j_dcmp0 (C : GC p s m args meth c cc nL own Ts D tys A) {x y : UInt64} (hxy : Op.cmpValue (FP.dcmp x y) .l = 0) (dg : decode cc pc = .ok (.dcmp .l, 1))
    (k : J p l e R s m args below meth c nL D A cells slots Q ws lv (pc + 1) (.int (zI 0) :: st)) : J p l e R s m args below meth c nL D A cells slots Q ws lv pc (.double y :: .double x :: st) :=
  fun H locs ls hP hD hS hl => lv_dcmp C.1 C.2.1 dg (by rw [hxy, ← zI_0]; exact k H locs ls hP hD hS hl)
theorem j_ifnonnull (C : GC p s m args meth c cc nL own Ts D tys A) {x : Nat} {off : Int} (tgt : Nat) (dg : decode cc pc = .ok (.ifnonnull off, 3)) (ht : (pc : Int) + off = (tgt : Int))
    (k : J p l e R s m args below meth c nL D A cells slots Q ws lv tgt st) : J p l e R s m args below meth c nL D A cells slots Q ws lv pc (.ref x :: st) :=
  fun H locs ls hP hD hS hl => lv_ifnonnull C.1 C.2.1 dg ht (k H locs ls hP hD hS hl)
theorem j_max (C : GC p s m args meth c cc nL own Ts D tys A) {index : Nat} (h1 : (Cond.methodLink own index Lib.Math.max.name).before args s = true) (h2 : (Cond.static Lib.Math.max.name).before args s = true) (h3 : (Cond.initialized "java/lang/Math").before args s = true) (h4 : (Cond.code Lib.Math.max.name Lib.Math.max.code 2 (some .int)).before args s = true)
    (hframes : 1 ≤ R.frames) (hlocals : (st.map fun v => v.category).sum + 13 ≤ R.locals) (hc : cells ≤ R.cells) (hs : slots ≤ R.slots) {a b : Int} (ha : zR a) (hb : zR b) (dg : decode cc pc = .ok (.invokestatic index, 3))
    (k : J p l e R s m args below meth c nL D A cells slots Q ws lv (pc + 3) (.int (zI (max a b)) :: st)) : J p l e R s m args below meth c nL D A cells slots Q ws lv pc (.int (zI b) :: .int (zI a) :: st) :=
  fun H locs ls hP hD hS hl => va_mmax C.1 C.2.1 (C.2.2.1.trans hl.1.symm) C.2.2.2.1 h1 h2 h3 h4 hframes hlocals hc hs dg (by
    have e : (if zI a < zI b then zI b else zI a) = zI (max a b) := by
      by_cases h : a < b
      · rw [if_pos ((zI_lt ha hb).mpr h), Int.max_eq_right (Int.le_of_lt h)]
      · rw [if_neg (fun q => h ((zI_lt ha hb).mp q)), Int.max_eq_left (by omega)]
    rw [e]
    exact k H locs ls hP hD hS hl)
theorem j_abs (C : GC p s m args meth c cc nL own Ts D tys A) {index : Nat} (h1 : (Cond.methodLink own index Lib.Math.abs.name).before args s = true) (h2 : (Cond.static Lib.Math.abs.name).before args s = true) (h3 : (Cond.initialized "java/lang/Math").before args s = true) (h4 : (Cond.code Lib.Math.abs.name Lib.Math.abs.code 1 (some .int)).before args s = true)
    (hframes : 1 ≤ R.frames) (hlocals : (st.map fun v => v.category).sum + 13 ≤ R.locals) (hc : cells ≤ R.cells) (hs : slots ≤ R.slots) {a : Int} (ha : zR a) (dg : decode cc pc = .ok (.invokestatic index, 3))
    (k : J p l e R s m args below meth c nL D A cells slots Q ws lv (pc + 3) (.int (zI (if a < 0 then -a else a)) :: st)) : J p l e R s m args below meth c nL D A cells slots Q ws lv pc (.int (zI a) :: st) :=
  fun H locs ls hP hD hS hl => va_mabs C.1 C.2.1 (C.2.2.1.trans hl.1.symm) C.2.2.2.1 h1 h2 h3 h4 hframes hlocals hc hs dg (by
    have e : (if 0 ≤ zI a then zI a else 0 - zI a) = zI (if a < 0 then -a else a) := by
      by_cases h : a < 0
      · rw [if_neg (fun q => absurd ((zI_ge0 ha).mp q) (by omega)), if_pos h, ← zI_0, zI_sub, show (0 : Int) - a = -a by omega]
      · rw [if_pos ((zI_ge0 ha).mpr (by omega)), if_neg h]
    rw [e]
    exact k H locs ls hP hD hS hl)
theorem j_putR (C : GC p s m args meth c cc nL own Ts D tys A) {ref Cn : String} {T : u_T} {N ci index a : Nat} (hin : ∀ w ∈ u_ws Cn T N, w ∈ Ts) (ty0 : Nat → FieldType) (hty : ∀ k, k < N → parseFieldDescriptor (T k).2.2.1 = some (ty0 k)) (hnm : ∀ a, a < N → ∀ b, b < N → a ≠ b → (T a).2.1 ≠ (T b).2.1) (q0 : Nat) {fs : List Value} (he : ws[q0]? = some (a, .inr (ci, fs))) (hc : vwCl[ci]? = some (Cn, T, N)) (k : Nat) (hk : k < N) (hlink : (Cond.fieldLink own index ref (T k).2.1 (T k).2.2.1).before args s = true) (hsame : (T k).1 = ref) (hfin : (T k).2.2.2 = false) {v : Nat} (hd : parseFieldDescriptor (T k).2.2.1 = some (.array (.array .int))) (hl : k < fs.length) {ws' : va_W} (hw : ws.set q0 (a, .inr (ci, fs.set k (.ref v))) = ws') (dg : decode cc pc = .ok (.putfield index, 3))
    (kk : J p l e R s m args below meth c nL D A cells slots Q ws' lv (pc + 3) st) : J p l e R s m args below meth c nL D A cells slots Q ws lv pc (.ref v :: .ref a :: st) := by
  subst hw
  exact fun H locs ls hP hD hS hlv => va_put C.1 C.2.1 C.2.2.2.2.1 hin ty0 hty hnm C.2.2.2.1 C.2.2.2.2.2.1 hP hD hS q0 he hc k hk hlink (fun _ h9 => hsame ▸ h9) hfin (ty := .array (.array .int)) (v := .ref v) hd rfl rfl hl dg (fun H1 locs1 hP1 hD1 hS1 => kk H1 locs1 ls hP1 hD1 hS1 hlv)
/-- the classes of int[] and int[][] -/
theorem aoa_cls {c1 c2 : ClassId} (hK : va_K D vwCl tys s) {i j : Nat} (hi : tys[i]? = some (c1, .int)) (hj : tys[j]? = some (c2, .array .int)) (ho : va_AOA .int s) : ∃ kA : Class, s.vm.classes[c2]? = some kA ∧ kA.kind = .array c1 (.array .int) ∧ s.vm.findClass "[[I" = some c2 := by
  obtain ⟨comp, cx, k, h1, -, h2, h3, h4⟩ := arrayOverA_spec (va_AOA.use (A := #[]) ho)
  have e1 : s.vm.findClass "[I" = some c1 := (hK.2 i _ hi).2
  have e2 : s.vm.findClass "[[I" = some c2 := (hK.2 j _ hj).2
  have e3 : some c1 = some comp := e1.symm.trans h1
  have e4 : some c2 = some cx := e2.symm.trans h4
  cases e3; cases e4
  exact ⟨k, h2, h3, e2⟩
/-- a row into an array of rows -/
theorem j_aastA (C : GC p s m args meth c cc nL own Ts D tys A) (ho : va_AOA .int s) (q0 qk i0 t0 : Nat) {c1 c2 : ClassId} {a v n : Nat} {x : vp_A} {f : Nat → Option Nat} (ha : ws[q0]? = some (a, .inl (c2, n, .inr (.inr (.inr (.inr f)))))) (hi : tys[i0]? = some (c1, .int)) (ht : tys[t0]? = some (c2, .array .int)) (hv : ws[qk]? = some (v, .inl (c1, x))) {i : Int} (h0 : 0 ≤ i) (h1 : i < (n : Int)) (hn : n < 2147483648) {ws' : va_W} (hw : ws.set q0 (a, .inl (c2, n, .inr (.inr (.inr (.inr (va_up f i.toNat (some v))))))) = ws') (dg : decode cc pc = .ok (.aastore, 1))
    (k : J p l e R s m args below meth c nL D A cells slots Q ws' lv (pc + 1) st) : J p l e R s m args below meth c nL D A cells slots Q ws lv pc (.ref v :: .int (zI i) :: .ref a :: st) := by
  subst hw
  intro H locs ls hP hD hS hl
  obtain ⟨j, rfl⟩ := Int.eq_ofNat_of_zero_le h0
  rw [zI_nI (by omega)]
  have hj : j < n := by omega
  obtain ⟨kA, k1, k2, -⟩ := aoa_cls C.2.2.2.2.2.1 hi ht ho
  obtain ⟨-, kc, hkc, -⟩ := (C.2.2.2.2.2.1.2 i0 _ hi).1 0 (fun _ => .null)
  have hc1 : H[v]? = some (vp_cell c1 x) := hP qk _ hv
  have hcv : (vp_cell c1 x).cls = c1 ∧ (vp_cell c1 x).vm = .none := by
    unfold vp_cell
    split <;> exact ⟨rfl, rfl⟩
  refine W.aast C.1 C.2.1 (hP q0 _ ha) (fun q h => by cases h) (fun h => by cases h) k1 k2 rfl hkc ⟨nI_pos (by omega), by rw [nI_clamp (by omega)]; show j < (arrV _ _ _).slots.size; rw [arrV_size]; exact hj⟩ hc1 (fun q h => by rw [hcv.2] at h; cases h) (by rw [hcv.1]; exact hkc) (by rw [hcv.1]; unfold Vm.assignable; unfold Vm.assignableAux; rw [beq_self_eq_true, Bool.true_or]) rfl rfl dg fun H1 e z oq => ?_
  refine k H1 _ ls (hP.set hD ha ?_ oq) (hD.set ha) (hS.put z oq (hD.2 q0 _ ha)) hl
  show H1[a]? = some (vp_cell _ _)
  rw [e, nI_clamp (by omega)]
  rw [vp_cell_q, vp_cell_q, arrV_store]
  congr 2
  funext q
  by_cases hq : q = j
  · subst hq
    simp [updV, va_up, va_rf]
  · simp [updV, va_up, hq]
/-- new int[n][] -/
theorem j_newR (C : GC p s m args meth c cc nL own Ts D tys A) (ho : va_AOA .int s) (i0 t0 : Nat) {c1 c2 : ClassId} (hi : tys[i0]? = some (c1, .int)) (ht : tys[t0]? = some (c2, .array .int)) {index : Nat} (hclink : (Cond.classLink own index "[I").before args s = true) {z : Int} {n : Nat} (hz : z = n) (hn : n < 1000000) (hc : cells + 1 ≤ R.cells) (hs : slots + n ≤ R.slots) (dg : decode cc pc = .ok (.anewarray index, 3))
    (k : ∀ q : Nat, J p l e R s m args below meth c nL D A (cells + 1) (slots + n) Q (ws ++ [(q, .inl (c2, n, .inr (.inr (.inr (.inr (fun _ => none))))))]) lv (pc + 3) (.ref q :: st)) : J p l e R s m args below meth c nL D A cells slots Q ws lv pc (.int (zI z) :: st) := by
  subst hz
  intro H locs ls hP hD hS hl
  rw [zI_nI (by omega)]
  obtain ⟨kA0, k1, k2, k3⟩ := aoa_cls C.2.2.2.2.2.1 hi ht ho
  refine W.anewA (t := .int) C.1 C.2.1 C.2.2.2.1 hclink (va_AOA.use ho) rfl dg rfl (nI_pos (by omega)) (by rw [nI_clamp (by omega)]; omega) hc (by rw [nI_clamp (by omega)]; exact hs) fun cA kA comp f1 f2 f3 f4 => ?_
  have e0 : some c2 = some cA := k3.symm.trans f1
  cases e0
  rw [nI_clamp (by omega)]
  generalize hH1 : H.push ({ cls := c2, slots := Array.replicate n .null, vm := .none } : Cell) = H1
  have e1 : H1[H.size]? = some (arrV c2 n (fun _ => .null)) := by rw [← hH1, Array.getElem?_push_size, ← arrV_new]
  have o1 : ∀ q : Nat, q < H.size → H1[q]? = H[q]? := fun q hq => by rw [← hH1, Array.getElem?_push, if_neg (Nat.ne_of_lt hq)]
  have hk : ∀ (k : Nat) (x : Nat × va_E), ws[k]? = some x → H1[x.1]? = H[x.1]? := fun k x hx => o1 x.1 ((hP k x hx).lt)
  have z1 : H1.size = H.size + 1 := by rw [← hH1, Array.size_push]
  refine k H.size H1 locs ls ((hP.kept hk).app (fun k x hx => ?_)) (hD.push hP rfl (C.2.2.2.2.2.2.1 _ hS.1)) ⟨Nat.le_trans hS.1 (by omega), fun x h1 h2 => (o1 x (Nat.lt_of_lt_of_le h1 hS.1)).trans (hS.2.1 x h1 h2), hS.2.2⟩ hl
  have hz : k < 1 := (List.getElem?_eq_some_iff.mp hx).1
  rw [show k = 0 by omega] at hx
  cases hx
  show H1[H.size]? = some (vp_cell _ _)
  rw [e1, vp_cell_q]
  rfl
end SR
