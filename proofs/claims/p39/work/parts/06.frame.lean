/-! ===== whole numbers as ints ===== -/
def zI (z : Int) : Int32 := Int32.ofInt z
def zR (z : Int) : Prop := -2147483648 ≤ z ∧ z < 2147483648
theorem zI_toInt {z : Int} (h : zR z) : (zI z).toInt = z := by
  obtain ⟨h1, h2⟩ := h
  show (Int32.ofInt z).toInt = z
  have e : z.bmod (2 ^ 32) = z := by rw [Int.bmod_eq_of_le (by omega) (by omega)]
  rw [Int32.toInt_ofInt]
  exact e
theorem zI_add (a b : Int) : zI a + zI b = zI (a + b) := by
  apply Int32.toInt_inj.1
  simp [zI, Int32.toInt_add, Int32.toInt_ofInt]
theorem zI_sub (a b : Int) : zI a - zI b = zI (a - b) := by
  apply Int32.toInt_inj.1
  simp [zI, Int32.toInt_sub, Int32.toInt_ofInt]
theorem zI_mul (a b : Int) : zI a * zI b = zI (a * b) := by
  apply Int32.toInt_inj.1
  simp [zI, Int32.toInt_mul, Int32.toInt_ofInt]
theorem zI_neg (a : Int) : -zI a = zI (-a) := by
  apply Int32.toInt_inj.1
  simp [zI, Int32.toInt_neg, Int32.toInt_ofInt]
theorem zI_lt {a b : Int} (ha : zR a) (hb : zR b) : zI a < zI b ↔ a < b := by rw [Int32.lt_iff_toInt_lt, zI_toInt ha, zI_toInt hb]
theorem zI_le {a b : Int} (ha : zR a) (hb : zR b) : zI a ≤ zI b ↔ a ≤ b := by rw [Int32.le_iff_toInt_le, zI_toInt ha, zI_toInt hb]
theorem zI_eq {a b : Int} (ha : zR a) (hb : zR b) : zI a = zI b ↔ a = b := by rw [← Int32.toInt_inj, zI_toInt ha, zI_toInt hb]
theorem zI_of (x : Int32) : zI x.toInt = x := Int32.ofInt_toInt x
theorem zR_of (x : Int32) : zR x.toInt := by
  have h1 := Int32.le_toInt x
  have h2 := Int32.toInt_lt x
  exact ⟨by omega, by omega⟩
theorem zI_nI {n : Nat} (h : n < 2147483648) : zI (n : Int) = nI n := by
  apply Int32.toInt_inj.1
  rw [zI_toInt ⟨by omega, by omega⟩, nI_toInt (by omega)]
theorem zI_0 : zI 0 = 0 := by decide +kernel
theorem zR_0 : zR 0 := ⟨by decide, by decide⟩
theorem zI_lt0 {a : Int} (ha : zR a) : zI a < 0 ↔ a < 0 := by
  have h := zI_lt ha zR_0
  rwa [zI_0] at h
theorem zI_gt0 {a : Int} (ha : zR a) : 0 < zI a ↔ 0 < a := by
  have h := zI_lt zR_0 ha
  rwa [zI_0] at h
theorem zI_le0 {a : Int} (ha : zR a) : zI a ≤ 0 ↔ a ≤ 0 := by
  have h := zI_le ha zR_0
  rwa [zI_0] at h
theorem zI_ge0 {a : Int} (ha : zR a) : 0 ≤ zI a ↔ 0 ≤ a := by
  have h := zI_le zR_0 ha
  rwa [zI_0] at h
theorem zI_eq0 {a : Int} (ha : zR a) : zI a = 0 ↔ a = 0 := by
  have h := zI_eq ha zR_0
  rwa [zI_0] at h
/-- an array of ints, by whole numbers -/
def zA (f : Int → Int) : Nat → Int32 := fun j => zI (f (j : Int))
def upZ (f : Int → Int) (k v : Int) : Int → Int := fun j => if j = k then v else f j
theorem upZ_s {f : Int → Int} {k v : Int} : upZ f k v k = v := if_pos rfl
theorem upZ_n {f : Int → Int} {k v j : Int} (h : j ≠ k) : upZ f k v j = f j := if_neg h
theorem upd_zA (f : Int → Int) {k : Int} (v : Int) (h0 : 0 ≤ k) (h1 : k < 2147483648) : upd (zA f) (zI k).toNatClampNeg (zI v) = zA (upZ f k v) := by
  obtain ⟨n, rfl⟩ := Int.eq_ofNat_of_zero_le h0
  rw [zI_nI (by omega), nI_clamp (by omega)]
  funext j
  unfold upd zA upZ
  by_cases h : j = n
  · subst h; simp
  · have h2 : ¬ ((j : Int) = (n : Int)) := by omega
    rw [if_neg h, if_neg h2]
theorem zA_at (f : Int → Int) {k : Int} (h0 : 0 ≤ k) (h1 : k < 2147483648) : zA f (zI k).toNatClampNeg = zI (f k) := by
  obtain ⟨n, rfl⟩ := Int.eq_ofNat_of_zero_le h0
  rw [zI_nI (by omega), nI_clamp (by omega)]
  rfl
theorem zI_in {k : Int} {n : Nat} (h0 : 0 ≤ k) (h1 : k < (n : Int)) (hn : n < 2147483648) : vp_in (zI k) n := by
  obtain ⟨j, rfl⟩ := Int.eq_ofNat_of_zero_le h0
  rw [zI_nI (by omega)]
  exact vp_in_nI (by omega) (by omega)
theorem zA_const (x : Int32) : (fun _ : Nat => x) = zA (fun _ => x.toInt) := funext fun _ => (zI_of x).symm
/-! ===== a method's fixed facts, and the judgement: whatever heap holds the world ws, whatever locals hold lv ===== -/
def GC (p : Program) (s : State) (m : MethodId) (args : Array Value) (meth : Method) (c : Code) (cc : ByteArray) (nL : Nat) (own : String) (Ts : List Cond) (D : va_G) (tys : List (ClassId × FieldType)) (A : Nat → Prop) : Prop :=
  p.tables.exec = Jvm.exec ∧ c.code = cc ∧ c.maxLocals = nL ∧ s.vm.findClass own = some m.cls ∧ (∀ w ∈ Ts, w.before args s = true) ∧ va_K D vwCl tys s ∧ (∀ q, s.heap.size ≤ q → A q) ∧ meth.locks = false
def J (p : Program) (l : Launch) (e : Env) (R : Room) (s : State) (m : MethodId) (args : Array Value) (below : List Frame) (meth : Method) (c : Code) (nL : Nat) (D : va_G) (A : Nat → Prop) (cells slots : Nat) (Q : State → Prop) (ws : va_W) (lv : List (Nat × Value)) (pc : Nat) (st : List Value) : Prop :=
  ∀ (H : Heap) (locs : List Loc) (ls : Array Slot), va_P D vwCl ws H → va_D A ws → va_S A s.heap H locs → lv_has ls nL lv → W p l e R s m args below meth c H locs cells slots Q (F0 m pc ls st)
def lvF (i : Nat) : Nat × Value → Bool := fun q => !(q.1 == i) && !(q.1 + 1 == i && q.2.category == 2)
def lvF2 (i : Nat) : Nat × Value → Bool := fun q => !(q.1 == i) && (!(q.1 == i + 1) && !(q.1 + 1 == i && q.2.category == 2))
section JR
variable {p : Program} {l : Launch} {e : Env} {R : Room} {s : State} {m : MethodId} {args : Array Value} {below : List Frame} {meth : Method} {c : Code} {cc : ByteArray} {nL : Nat} {own : String} {Ts : List Cond} {D : va_G} {tys : List (ClassId × FieldType)} {A : Nat → Prop} {cells slots : Nat} {Q : State → Prop} {ws : va_W} {lv : List (Nat × Value)} {pc : Nat} {st : List Value}
theorem J.cast {ws' : va_W} {lv' : List (Nat × Value)} {st' : List Value} (k : J p l e R s m args below meth c nL D A cells slots Q ws' lv' pc st') (h1 : ws = ws') (h2 : lv = lv') (h3 : st = st') : J p l e R s m args below meth c nL D A cells slots Q ws lv pc st := by
  subst h1; subst h2; subst h3; exact k
theorem J.pick {lv' : List (Nat × Value)} (ks : List Nat) (h : lv_pick lv ks = lv') (k : J p l e R s m args below meth c nL D A cells slots Q ws lv' pc st) : J p l e R s m args below meth c nL D A cells slots Q ws lv pc st := fun H locs ls hP hD hS hl => k H locs ls hP hD hS (lv_sub hl ks h)
theorem J.widen {k n : Nat} (h1 : cells ≤ k) (h2 : slots ≤ n) (kk : J p l e R s m args below meth c nL D A k n Q ws lv pc st) : J p l e R s m args below meth c nL D A cells slots Q ws lv pc st := fun H locs ls hP hD hS hl => W.widen h1 h2 (kk H locs ls hP hD hS hl)
/-- a loop that counts up -/
theorem j_up (F : Int → va_W) (G : Int → List (Nat × Value)) (I : Int → Prop) (a b : Int) (hab : a ≤ b) (h0 : I a)
    (step : ∀ i, a ≤ i → i < b → I i → (I (i + 1) → J p l e R s m args below meth c nL D A cells slots Q (F (i + 1)) (G (i + 1)) pc st) → J p l e R s m args below meth c nL D A cells slots Q (F i) (G i) pc st)
    (last : I b → J p l e R s m args below meth c nL D A cells slots Q (F b) (G b) pc st) : J p l e R s m args below meth c nL D A cells slots Q (F a) (G a) pc st := by
  suffices K : ∀ (n : Nat) (i : Int), a ≤ i → i ≤ b → (b - i).toNat = n → I i → J p l e R s m args below meth c nL D A cells slots Q (F i) (G i) pc st from K _ a (Int.le_refl _) hab rfl h0
  intro n
  induction n with
  | zero =>
    intro i h1 h2 h3 h4
    have e0 : i = b := by omega
    subst e0
    exact last h4
  | succ n ih =>
    intro i h1 h2 h3 h4
    exact step i h1 (by omega) h4 (fun h5 => ih (i + 1) (by omega) (by omega) (by omega) h5)
/-- a word of the method's list, by its place -/
theorem GC.w (C : GC p s m args meth c cc nL own Ts D tys A) (i : Nat) {w : Cond} (h : Ts[i]? = some w) : w.before args s = true := C.2.2.2.2.1 w (List.mem_of_getElem? h)
theorem j_iconst (C : GC p s m args meth c cc nL own Ts D tys A) {n : Int} (dg : decode cc pc = .ok (.iconst n, 1))
    (k : J p l e R s m args below meth c nL D A cells slots Q ws lv (pc + 1) (.int (zI n) :: st)) : J p l e R s m args below meth c nL D A cells slots Q ws lv pc st :=
  fun H locs ls hP hD hS hl => lv_iconst C.1 C.2.1 dg rfl (k H locs ls hP hD hS hl)
theorem j_bipush (C : GC p s m args meth c cc nL own Ts D tys A) {n : Int} (dg : decode cc pc = .ok (.bipush n, 2)) (hv : (Int8.ofInt n).toInt32 = zI n)
    (k : J p l e R s m args below meth c nL D A cells slots Q ws lv (pc + 2) (.int (zI n) :: st)) : J p l e R s m args below meth c nL D A cells slots Q ws lv pc st :=
  fun H locs ls hP hD hS hl => lv_bipush C.1 C.2.1 dg hv (k H locs ls hP hD hS hl)
theorem j_sipush (C : GC p s m args meth c cc nL own Ts D tys A) {n : Int} (dg : decode cc pc = .ok (.sipush n, 3)) (hv : (Int16.ofInt n).toInt32 = zI n)
    (k : J p l e R s m args below meth c nL D A cells slots Q ws lv (pc + 3) (.int (zI n) :: st)) : J p l e R s m args below meth c nL D A cells slots Q ws lv pc st :=
  fun H locs ls hP hD hS hl => lv_sipush C.1 C.2.1 dg hv (k H locs ls hP hD hS hl)
theorem j_iload_n (C : GC p s m args meth c cc nL own Ts D tys A) {i : Fin 4} {x : Int32} (dg : decode cc pc = .ok (.iload_n i, 1)) (n : Nat) (hn : lv[n]? = some ((i : Nat), .int x))
    (k : J p l e R s m args below meth c nL D A cells slots Q ws lv (pc + 1) (.int x :: st)) : J p l e R s m args below meth c nL D A cells slots Q ws lv pc st :=
  fun H locs ls hP hD hS hl => lv_iload_n C.1 C.2.1 dg rfl (lv_at hl n hn) (k H locs ls hP hD hS hl)
theorem j_iload (C : GC p s m args meth c cc nL own Ts D tys A) {i : Nat} {x : Int32} (dg : decode cc pc = .ok (.iload i, 2)) (n : Nat) (hn : lv[n]? = some (i, .int x))
    (k : J p l e R s m args below meth c nL D A cells slots Q ws lv (pc + 2) (.int x :: st)) : J p l e R s m args below meth c nL D A cells slots Q ws lv pc st :=
  fun H locs ls hP hD hS hl => lv_iload C.1 C.2.1 dg (lv_at hl n hn) (k H locs ls hP hD hS hl)
theorem j_istore_n (C : GC p s m args meth c cc nL own Ts D tys A) {i : Fin 4} {x : Int32} {lv' : List (Nat × Value)} (dg : decode cc pc = .ok (.istore_n i, 1)) (hi : (i : Nat) < nL) (ks : List Nat) (hp : lv_pick (((i : Nat), Value.int x) :: lv.filter (lvF i)) ks = lv')
    (k : J p l e R s m args below meth c nL D A cells slots Q ws lv' (pc + 1) st) : J p l e R s m args below meth c nL D A cells slots Q ws lv pc (.int x :: st) :=
  fun H locs ls hP hD hS hl => lv_istore_n C.1 C.2.1 dg rfl hl hi rfl (fun ls' hl' => k H locs ls' hP hD hS (lv_sub hl' ks hp))
theorem j_istore (C : GC p s m args meth c cc nL own Ts D tys A) {i : Nat} {x : Int32} {lv' : List (Nat × Value)} (dg : decode cc pc = .ok (.istore i, 2)) (hi : (i : Nat) < nL) (ks : List Nat) (hp : lv_pick ((i, Value.int x) :: lv.filter (lvF i)) ks = lv')
    (k : J p l e R s m args below meth c nL D A cells slots Q ws lv' (pc + 2) st) : J p l e R s m args below meth c nL D A cells slots Q ws lv pc (.int x :: st) :=
  fun H locs ls hP hD hS hl => lv_istore C.1 C.2.1 dg hl hi rfl (fun ls' hl' => k H locs ls' hP hD hS (lv_sub hl' ks hp))
theorem j_aload_n (C : GC p s m args meth c cc nL own Ts D tys A) {i : Fin 4} {x : Nat} (dg : decode cc pc = .ok (.aload_n i, 1)) (n : Nat) (hn : lv[n]? = some ((i : Nat), .ref x))
    (k : J p l e R s m args below meth c nL D A cells slots Q ws lv (pc + 1) (.ref x :: st)) : J p l e R s m args below meth c nL D A cells slots Q ws lv pc st :=
  fun H locs ls hP hD hS hl => lv_aload_n C.1 C.2.1 dg rfl (lv_at hl n hn) (k H locs ls hP hD hS hl)
theorem j_aload (C : GC p s m args meth c cc nL own Ts D tys A) {i : Nat} {x : Nat} (dg : decode cc pc = .ok (.aload i, 2)) (n : Nat) (hn : lv[n]? = some (i, .ref x))
    (k : J p l e R s m args below meth c nL D A cells slots Q ws lv (pc + 2) (.ref x :: st)) : J p l e R s m args below meth c nL D A cells slots Q ws lv pc st :=
  fun H locs ls hP hD hS hl => lv_aload C.1 C.2.1 dg (lv_at hl n hn) (k H locs ls hP hD hS hl)
theorem j_astore_n (C : GC p s m args meth c cc nL own Ts D tys A) {i : Fin 4} {x : Nat} {lv' : List (Nat × Value)} (dg : decode cc pc = .ok (.astore_n i, 1)) (hi : (i : Nat) < nL) (ks : List Nat) (hp : lv_pick (((i : Nat), Value.ref x) :: lv.filter (lvF i)) ks = lv')
    (k : J p l e R s m args below meth c nL D A cells slots Q ws lv' (pc + 1) st) : J p l e R s m args below meth c nL D A cells slots Q ws lv pc (.ref x :: st) :=
  fun H locs ls hP hD hS hl => lv_astore_n C.1 C.2.1 dg rfl hl hi rfl (fun ls' hl' => k H locs ls' hP hD hS (lv_sub hl' ks hp))
theorem j_astore (C : GC p s m args meth c cc nL own Ts D tys A) {i : Nat} {x : Nat} {lv' : List (Nat × Value)} (dg : decode cc pc = .ok (.astore i, 2)) (hi : (i : Nat) < nL) (ks : List Nat) (hp : lv_pick ((i, Value.ref x) :: lv.filter (lvF i)) ks = lv')
    (k : J p l e R s m args below meth c nL D A cells slots Q ws lv' (pc + 2) st) : J p l e R s m args below meth c nL D A cells slots Q ws lv pc (.ref x :: st) :=
  fun H locs ls hP hD hS hl => lv_astore C.1 C.2.1 dg hl hi rfl (fun ls' hl' => k H locs ls' hP hD hS (lv_sub hl' ks hp))
theorem j_lload_n (C : GC p s m args meth c cc nL own Ts D tys A) {i : Fin 4} {x : Int64} (dg : decode cc pc = .ok (.lload_n i, 1)) (n : Nat) (hn : lv[n]? = some ((i : Nat), .long x))
    (k : J p l e R s m args below meth c nL D A cells slots Q ws lv (pc + 1) (.long x :: st)) : J p l e R s m args below meth c nL D A cells slots Q ws lv pc st :=
  fun H locs ls hP hD hS hl => lv_lload_n C.1 C.2.1 dg rfl (lv_at hl n hn) (k H locs ls hP hD hS hl)
theorem j_lload (C : GC p s m args meth c cc nL own Ts D tys A) {i : Nat} {x : Int64} (dg : decode cc pc = .ok (.lload i, 2)) (n : Nat) (hn : lv[n]? = some (i, .long x))
    (k : J p l e R s m args below meth c nL D A cells slots Q ws lv (pc + 2) (.long x :: st)) : J p l e R s m args below meth c nL D A cells slots Q ws lv pc st :=
  fun H locs ls hP hD hS hl => lv_lload C.1 C.2.1 dg (lv_at hl n hn) (k H locs ls hP hD hS hl)
theorem j_lstore_n (C : GC p s m args meth c cc nL own Ts D tys A) {i : Fin 4} {x : Int64} {lv' : List (Nat × Value)} (dg : decode cc pc = .ok (.lstore_n i, 1)) (hi : (i : Nat) + 1 < nL) (ks : List Nat) (hp : lv_pick (((i : Nat), Value.long x) :: lv.filter (lvF2 i)) ks = lv')
    (k : J p l e R s m args below meth c nL D A cells slots Q ws lv' (pc + 1) st) : J p l e R s m args below meth c nL D A cells slots Q ws lv pc (.long x :: st) :=
  fun H locs ls hP hD hS hl => lv_lstore_n C.1 C.2.1 dg rfl hl hi rfl (fun ls' hl' => k H locs ls' hP hD hS (lv_sub hl' ks hp))
theorem j_lstore (C : GC p s m args meth c cc nL own Ts D tys A) {i : Nat} {x : Int64} {lv' : List (Nat × Value)} (dg : decode cc pc = .ok (.lstore i, 2)) (hi : (i : Nat) + 1 < nL) (ks : List Nat) (hp : lv_pick ((i, Value.long x) :: lv.filter (lvF2 i)) ks = lv')
    (k : J p l e R s m args below meth c nL D A cells slots Q ws lv' (pc + 2) st) : J p l e R s m args below meth c nL D A cells slots Q ws lv pc (.long x :: st) :=
  fun H locs ls hP hD hS hl => lv_lstore C.1 C.2.1 dg hl hi rfl (fun ls' hl' => k H locs ls' hP hD hS (lv_sub hl' ks hp))
theorem j_iinc (C : GC p s m args meth c cc nL own Ts D tys A) {i : Nat} {n : Int} {x : Int} {lv' : List (Nat × Value)} (dg : decode cc pc = .ok (.iinc i n, 3)) (j : Nat) (hj : lv[j]? = some (i, .int (zI x))) (hi : i < nL) (ks : List Nat) (hp : lv_pick ((i, Value.int (zI (x + n))) :: lv.filter (lvF i)) ks = lv')
    (k : J p l e R s m args below meth c nL D A cells slots Q ws lv' (pc + 3) st) : J p l e R s m args below meth c nL D A cells slots Q ws lv pc st :=
  fun H locs ls hP hD hS hl => lv_iinc C.1 C.2.1 dg hl hj (zI_add x n) hi rfl (fun ls' hl' => k H locs ls' hP hD hS (lv_sub hl' ks hp))
theorem j_iadd (C : GC p s m args meth c cc nL own Ts D tys A) {a b : Int} (dg : decode cc pc = .ok (.iadd, 1))
    (k : J p l e R s m args below meth c nL D A cells slots Q ws lv (pc + 1) (.int (zI (a + b)) :: st)) : J p l e R s m args below meth c nL D A cells slots Q ws lv pc (.int (zI b) :: .int (zI a) :: st) :=
  fun H locs ls hP hD hS hl => lv_iadd C.1 C.2.1 dg (by rw [zI_add]; exact k H locs ls hP hD hS hl)
theorem j_isub (C : GC p s m args meth c cc nL own Ts D tys A) {a b : Int} (dg : decode cc pc = .ok (.isub, 1))
    (k : J p l e R s m args below meth c nL D A cells slots Q ws lv (pc + 1) (.int (zI (a - b)) :: st)) : J p l e R s m args below meth c nL D A cells slots Q ws lv pc (.int (zI b) :: .int (zI a) :: st) :=
  fun H locs ls hP hD hS hl => lv_isub C.1 C.2.1 dg (by rw [zI_sub]; exact k H locs ls hP hD hS hl)
theorem j_imul (C : GC p s m args meth c cc nL own Ts D tys A) {a b : Int} (dg : decode cc pc = .ok (.imul, 1))
    (k : J p l e R s m args below meth c nL D A cells slots Q ws lv (pc + 1) (.int (zI (a * b)) :: st)) : J p l e R s m args below meth c nL D A cells slots Q ws lv pc (.int (zI b) :: .int (zI a) :: st) :=
  fun H locs ls hP hD hS hl => lv_imul C.1 C.2.1 dg (by rw [zI_mul]; exact k H locs ls hP hD hS hl)
theorem j_ineg (C : GC p s m args meth c cc nL own Ts D tys A) {a : Int} (dg : decode cc pc = .ok (.ineg, 1))
    (k : J p l e R s m args below meth c nL D A cells slots Q ws lv (pc + 1) (.int (zI (-a)) :: st)) : J p l e R s m args below meth c nL D A cells slots Q ws lv pc (.int (zI a) :: st) :=
  fun H locs ls hP hD hS hl => lv_ineg C.1 C.2.1 dg (by rw [zI_neg]; exact k H locs ls hP hD hS hl)
theorem j_ladd (C : GC p s m args meth c cc nL own Ts D tys A) {a b : Int64} (dg : decode cc pc = .ok (.ladd, 1))
    (k : J p l e R s m args below meth c nL D A cells slots Q ws lv (pc + 1) (.long (a + b) :: st)) : J p l e R s m args below meth c nL D A cells slots Q ws lv pc (.long b :: .long a :: st) :=
  fun H locs ls hP hD hS hl => lv_ladd C.1 C.2.1 dg (k H locs ls hP hD hS hl)
theorem j_lmul (C : GC p s m args meth c cc nL own Ts D tys A) {a b : Int64} (dg : decode cc pc = .ok (.lmul, 1))
    (k : J p l e R s m args below meth c nL D A cells slots Q ws lv (pc + 1) (.long (a * b) :: st)) : J p l e R s m args below meth c nL D A cells slots Q ws lv pc (.long b :: .long a :: st) :=
  fun H locs ls hP hD hS hl => lv_lmul C.1 C.2.1 dg (k H locs ls hP hD hS hl)
theorem j_i2l (C : GC p s m args meth c cc nL own Ts D tys A) {a : Int} (dg : decode cc pc = .ok (.i2l, 1))
    (k : J p l e R s m args below meth c nL D A cells slots Q ws lv (pc + 1) (.long (zI a).toInt64 :: st)) : J p l e R s m args below meth c nL D A cells slots Q ws lv pc (.int (zI a) :: st) :=
  fun H locs ls hP hD hS hl => lv_i2l C.1 C.2.1 dg rfl (k H locs ls hP hD hS hl)
theorem j_ldc2 (C : GC p s m args meth c cc nL own Ts D tys A) {i : Nat} {v : Int64} (hc : (Jvm.Cond.constantLong own i v).before args s = true) (dg : decode cc pc = .ok (.ldc2_w i, 3))
    (k : J p l e R s m args below meth c nL D A cells slots Q ws lv (pc + 3) (.long v :: st)) : J p l e R s m args below meth c nL D A cells slots Q ws lv pc st :=
  fun H locs ls hP hD hS hl => lv_ldc2 C.1 C.2.1 C.2.2.2.1 hc dg (k H locs ls hP hD hS hl)
theorem j_dup (C : GC p s m args meth c cc nL own Ts D tys A) {v : Value} (dg : decode cc pc = .ok (.dup, 1)) (hv : v.category = 1)
    (k : J p l e R s m args below meth c nL D A cells slots Q ws lv (pc + 1) (v :: v :: st)) : J p l e R s m args below meth c nL D A cells slots Q ws lv pc (v :: st) :=
  fun H locs ls hP hD hS hl => lv_dup C.1 C.2.1 dg hv (k H locs ls hP hD hS hl)
theorem j_dup2 (C : GC p s m args meth c cc nL own Ts D tys A) {v w : Value} (dg : decode cc pc = .ok (.dup2, 1)) (hv : v.category = 1) (hw : w.category = 1)
    (k : J p l e R s m args below meth c nL D A cells slots Q ws lv (pc + 1) (v :: w :: v :: w :: st)) : J p l e R s m args below meth c nL D A cells slots Q ws lv pc (v :: w :: st) :=
  fun H locs ls hP hD hS hl => lv_dup2_11 C.1 C.2.1 dg hv hw (k H locs ls hP hD hS hl)
theorem j_pop (C : GC p s m args meth c cc nL own Ts D tys A) {v : Value} (dg : decode cc pc = .ok (.pop, 1)) (hv : v.category = 1)
    (k : J p l e R s m args below meth c nL D A cells slots Q ws lv (pc + 1) st) : J p l e R s m args below meth c nL D A cells slots Q ws lv pc (v :: st) :=
  fun H locs ls hP hD hS hl => lv_pop C.1 C.2.1 dg hv (k H locs ls hP hD hS hl)
theorem j_goto (C : GC p s m args meth c cc nL own Ts D tys A) {off : Int} (tgt : Nat) (dg : decode cc pc = .ok (.goto off, 3)) (ht : (pc : Int) + off = (tgt : Int))
    (k : J p l e R s m args below meth c nL D A cells slots Q ws lv tgt st) : J p l e R s m args below meth c nL D A cells slots Q ws lv pc st :=
  fun H locs ls hP hD hS hl => lv_goto C.1 C.2.1 dg ht (k H locs ls hP hD hS hl)
theorem j_icmp_eq (C : GC p s m args meth c cc nL own Ts D tys A) {off : Int} (tgt : Nat) {a b : Int} (dg : decode cc pc = .ok (.if_icmp .eq off, 3)) (ht : (pc : Int) + off = (tgt : Int)) (ha : zR a) (hb : zR b)
    (kt : (a = b) → J p l e R s m args below meth c nL D A cells slots Q ws lv tgt st) (kf : (a ≠ b) → J p l e R s m args below meth c nL D A cells slots Q ws lv (pc + 3) st) : J p l e R s m args below meth c nL D A cells slots Q ws lv pc (.int (zI b) :: .int (zI a) :: st) :=
  fun H locs ls hP hD hS hl => lv_icmp_eq C.1 C.2.1 dg ht (fun h => kt ((zI_eq ha hb).mp h) H locs ls hP hD hS hl) (fun h => kf (fun q => h ((zI_eq ha hb).mpr q)) H locs ls hP hD hS hl)
theorem j_if_eq (C : GC p s m args meth c cc nL own Ts D tys A) {off : Int} (tgt : Nat) {a : Int} (dg : decode cc pc = .ok (.ifCond .eq off, 3)) (ht : (pc : Int) + off = (tgt : Int)) (ha : zR a)
    (kt : (a = 0) → J p l e R s m args below meth c nL D A cells slots Q ws lv tgt st) (kf : (a ≠ 0) → J p l e R s m args below meth c nL D A cells slots Q ws lv (pc + 3) st) : J p l e R s m args below meth c nL D A cells slots Q ws lv pc (.int (zI a) :: st) :=
  fun H locs ls hP hD hS hl => lv_if_eq C.1 C.2.1 dg ht (fun h => kt ((zI_eq0 ha).mp h) H locs ls hP hD hS hl) (fun h => kf (fun q => h ((zI_eq0 ha).mpr q)) H locs ls hP hD hS hl)
theorem j_icmp_ne (C : GC p s m args meth c cc nL own Ts D tys A) {off : Int} (tgt : Nat) {a b : Int} (dg : decode cc pc = .ok (.if_icmp .ne off, 3)) (ht : (pc : Int) + off = (tgt : Int)) (ha : zR a) (hb : zR b)
    (kt : (a ≠ b) → J p l e R s m args below meth c nL D A cells slots Q ws lv tgt st) (kf : (a = b) → J p l e R s m args below meth c nL D A cells slots Q ws lv (pc + 3) st) : J p l e R s m args below meth c nL D A cells slots Q ws lv pc (.int (zI b) :: .int (zI a) :: st) :=
  fun H locs ls hP hD hS hl => lv_icmp_ne C.1 C.2.1 dg ht (fun h => kt (fun q => h ((zI_eq ha hb).mpr q)) H locs ls hP hD hS hl) (fun h => kf ((zI_eq ha hb).mp h) H locs ls hP hD hS hl)
theorem j_if_ne (C : GC p s m args meth c cc nL own Ts D tys A) {off : Int} (tgt : Nat) {a : Int} (dg : decode cc pc = .ok (.ifCond .ne off, 3)) (ht : (pc : Int) + off = (tgt : Int)) (ha : zR a)
    (kt : (a ≠ 0) → J p l e R s m args below meth c nL D A cells slots Q ws lv tgt st) (kf : (a = 0) → J p l e R s m args below meth c nL D A cells slots Q ws lv (pc + 3) st) : J p l e R s m args below meth c nL D A cells slots Q ws lv pc (.int (zI a) :: st) :=
  fun H locs ls hP hD hS hl => lv_if_ne C.1 C.2.1 dg ht (fun h => kt (fun q => h ((zI_eq0 ha).mpr q)) H locs ls hP hD hS hl) (fun h => kf ((zI_eq0 ha).mp h) H locs ls hP hD hS hl)
theorem j_icmp_lt (C : GC p s m args meth c cc nL own Ts D tys A) {off : Int} (tgt : Nat) {a b : Int} (dg : decode cc pc = .ok (.if_icmp .lt off, 3)) (ht : (pc : Int) + off = (tgt : Int)) (ha : zR a) (hb : zR b)
    (kt : (a < b) → J p l e R s m args below meth c nL D A cells slots Q ws lv tgt st) (kf : (b ≤ a) → J p l e R s m args below meth c nL D A cells slots Q ws lv (pc + 3) st) : J p l e R s m args below meth c nL D A cells slots Q ws lv pc (.int (zI b) :: .int (zI a) :: st) :=
  fun H locs ls hP hD hS hl => lv_icmp_lt C.1 C.2.1 dg ht (fun h => kt ((zI_lt ha hb).mp h) H locs ls hP hD hS hl) (fun h => kf (Int.not_lt.mp fun q => h ((zI_lt ha hb).mpr q)) H locs ls hP hD hS hl)
theorem j_if_lt (C : GC p s m args meth c cc nL own Ts D tys A) {off : Int} (tgt : Nat) {a : Int} (dg : decode cc pc = .ok (.ifCond .lt off, 3)) (ht : (pc : Int) + off = (tgt : Int)) (ha : zR a)
    (kt : (a < 0) → J p l e R s m args below meth c nL D A cells slots Q ws lv tgt st) (kf : (0 ≤ a) → J p l e R s m args below meth c nL D A cells slots Q ws lv (pc + 3) st) : J p l e R s m args below meth c nL D A cells slots Q ws lv pc (.int (zI a) :: st) :=
  fun H locs ls hP hD hS hl => lv_if_lt C.1 C.2.1 dg ht (fun h => kt ((zI_lt0 ha).mp h) H locs ls hP hD hS hl) (fun h => kf (Int.not_lt.mp fun q => h ((zI_lt0 ha).mpr q)) H locs ls hP hD hS hl)
theorem j_icmp_ge (C : GC p s m args meth c cc nL own Ts D tys A) {off : Int} (tgt : Nat) {a b : Int} (dg : decode cc pc = .ok (.if_icmp .ge off, 3)) (ht : (pc : Int) + off = (tgt : Int)) (ha : zR a) (hb : zR b)
    (kt : (b ≤ a) → J p l e R s m args below meth c nL D A cells slots Q ws lv tgt st) (kf : (a < b) → J p l e R s m args below meth c nL D A cells slots Q ws lv (pc + 3) st) : J p l e R s m args below meth c nL D A cells slots Q ws lv pc (.int (zI b) :: .int (zI a) :: st) :=
  fun H locs ls hP hD hS hl => lv_icmp_ge C.1 C.2.1 dg ht (fun h => kt ((zI_le hb ha).mp h) H locs ls hP hD hS hl) (fun h => kf (Int.not_le.mp fun q => h ((zI_le hb ha).mpr q)) H locs ls hP hD hS hl)
theorem j_if_ge (C : GC p s m args meth c cc nL own Ts D tys A) {off : Int} (tgt : Nat) {a : Int} (dg : decode cc pc = .ok (.ifCond .ge off, 3)) (ht : (pc : Int) + off = (tgt : Int)) (ha : zR a)
    (kt : (0 ≤ a) → J p l e R s m args below meth c nL D A cells slots Q ws lv tgt st) (kf : (a < 0) → J p l e R s m args below meth c nL D A cells slots Q ws lv (pc + 3) st) : J p l e R s m args below meth c nL D A cells slots Q ws lv pc (.int (zI a) :: st) :=
  fun H locs ls hP hD hS hl => lv_if_ge C.1 C.2.1 dg ht (fun h => kt ((zI_ge0 ha).mp h) H locs ls hP hD hS hl) (fun h => kf (Int.not_le.mp fun q => h ((zI_ge0 ha).mpr q)) H locs ls hP hD hS hl)
theorem j_icmp_gt (C : GC p s m args meth c cc nL own Ts D tys A) {off : Int} (tgt : Nat) {a b : Int} (dg : decode cc pc = .ok (.if_icmp .gt off, 3)) (ht : (pc : Int) + off = (tgt : Int)) (ha : zR a) (hb : zR b)
    (kt : (b < a) → J p l e R s m args below meth c nL D A cells slots Q ws lv tgt st) (kf : (a ≤ b) → J p l e R s m args below meth c nL D A cells slots Q ws lv (pc + 3) st) : J p l e R s m args below meth c nL D A cells slots Q ws lv pc (.int (zI b) :: .int (zI a) :: st) :=
  fun H locs ls hP hD hS hl => lv_icmp_gt C.1 C.2.1 dg ht (fun h => kt ((zI_lt hb ha).mp h) H locs ls hP hD hS hl) (fun h => kf (Int.not_lt.mp fun q => h ((zI_lt hb ha).mpr q)) H locs ls hP hD hS hl)
theorem j_if_gt (C : GC p s m args meth c cc nL own Ts D tys A) {off : Int} (tgt : Nat) {a : Int} (dg : decode cc pc = .ok (.ifCond .gt off, 3)) (ht : (pc : Int) + off = (tgt : Int)) (ha : zR a)
    (kt : (0 < a) → J p l e R s m args below meth c nL D A cells slots Q ws lv tgt st) (kf : (a ≤ 0) → J p l e R s m args below meth c nL D A cells slots Q ws lv (pc + 3) st) : J p l e R s m args below meth c nL D A cells slots Q ws lv pc (.int (zI a) :: st) :=
  fun H locs ls hP hD hS hl => lv_if_gt C.1 C.2.1 dg ht (fun h => kt ((zI_gt0 ha).mp h) H locs ls hP hD hS hl) (fun h => kf (Int.not_lt.mp fun q => h ((zI_gt0 ha).mpr q)) H locs ls hP hD hS hl)
theorem j_icmp_le (C : GC p s m args meth c cc nL own Ts D tys A) {off : Int} (tgt : Nat) {a b : Int} (dg : decode cc pc = .ok (.if_icmp .le off, 3)) (ht : (pc : Int) + off = (tgt : Int)) (ha : zR a) (hb : zR b)
    (kt : (a ≤ b) → J p l e R s m args below meth c nL D A cells slots Q ws lv tgt st) (kf : (b < a) → J p l e R s m args below meth c nL D A cells slots Q ws lv (pc + 3) st) : J p l e R s m args below meth c nL D A cells slots Q ws lv pc (.int (zI b) :: .int (zI a) :: st) :=
  fun H locs ls hP hD hS hl => lv_icmp_le C.1 C.2.1 dg ht (fun h => kt ((zI_le ha hb).mp h) H locs ls hP hD hS hl) (fun h => kf (Int.not_le.mp fun q => h ((zI_le ha hb).mpr q)) H locs ls hP hD hS hl)
theorem j_if_le (C : GC p s m args meth c cc nL own Ts D tys A) {off : Int} (tgt : Nat) {a : Int} (dg : decode cc pc = .ok (.ifCond .le off, 3)) (ht : (pc : Int) + off = (tgt : Int)) (ha : zR a)
    (kt : (a ≤ 0) → J p l e R s m args below meth c nL D A cells slots Q ws lv tgt st) (kf : (0 < a) → J p l e R s m args below meth c nL D A cells slots Q ws lv (pc + 3) st) : J p l e R s m args below meth c nL D A cells slots Q ws lv pc (.int (zI a) :: st) :=
  fun H locs ls hP hD hS hl => lv_if_le C.1 C.2.1 dg ht (fun h => kt ((zI_le0 ha).mp h) H locs ls hP hD hS hl) (fun h => kf (Int.not_le.mp fun q => h ((zI_le0 ha).mpr q)) H locs ls hP hD hS hl)
theorem j_get (C : GC p s m args meth c cc nL own Ts D tys A) {ref Cn : String} {T : u_T} {N ci index a : Nat} (hin : ∀ w ∈ u_ws Cn T N, w ∈ Ts) (q0 : Nat) {fs : List Value} (he : ws[q0]? = some (a, .inr (ci, fs))) (hc : vwCl[ci]? = some (Cn, T, N)) (k : Nat) (hk : k < N) (hlink : (Cond.fieldLink own index ref (T k).2.1 (T k).2.2.1).before args s = true) (hsame : (T k).1 = ref) {v : Value} (hv : fs[k]? = some v) (dg : decode cc pc = .ok (.getfield index, 3))
    (kk : J p l e R s m args below meth c nL D A cells slots Q ws lv (pc + 3) (v :: st)) : J p l e R s m args below meth c nL D A cells slots Q ws lv pc (.ref a :: st) :=
  fun H locs ls hP hD hS hl => va_get C.1 C.2.1 C.2.2.2.2.1 hin C.2.2.2.1 C.2.2.2.2.2.1 hP q0 he hc k hk hlink (fun _ h9 => hsame ▸ h9) hv dg (kk H locs ls hP hD hS hl)
theorem j_put (C : GC p s m args meth c cc nL own Ts D tys A) {ref Cn : String} {T : u_T} {N ci index a : Nat} (hin : ∀ w ∈ u_ws Cn T N, w ∈ Ts) (ty0 : Nat → FieldType) (hty : ∀ k, k < N → parseFieldDescriptor (T k).2.2.1 = some (ty0 k)) (hnm : ∀ a, a < N → ∀ b, b < N → a ≠ b → (T a).2.1 ≠ (T b).2.1) (q0 : Nat) {fs : List Value} (he : ws[q0]? = some (a, .inr (ci, fs))) (hc : vwCl[ci]? = some (Cn, T, N)) (k : Nat) (hk : k < N) (hlink : (Cond.fieldLink own index ref (T k).2.1 (T k).2.2.1).before args s = true) (hsame : (T k).1 = ref) (hfin : (T k).2.2.2 = false) {v : Int32} (hd : parseFieldDescriptor (T k).2.2.1 = some .int) (hl : k < fs.length) {ws' : va_W} (hw : ws.set q0 (a, .inr (ci, fs.set k (.int v))) = ws') (dg : decode cc pc = .ok (.putfield index, 3))
    (kk : J p l e R s m args below meth c nL D A cells slots Q ws' lv (pc + 3) st) : J p l e R s m args below meth c nL D A cells slots Q ws lv pc (.int v :: .ref a :: st) := by
  subst hw
  exact fun H locs ls hP hD hS hlv => va_put C.1 C.2.1 C.2.2.2.2.1 hin ty0 hty hnm C.2.2.2.1 C.2.2.2.2.2.1 hP hD hS q0 he hc k hk hlink (fun _ h9 => hsame ▸ h9) hfin (ty := .int) (v := .int v) hd rfl rfl hl dg (fun H1 locs1 hP1 hD1 hS1 => kk H1 locs1 ls hP1 hD1 hS1 hlv)
theorem j_iald (C : GC p s m args meth c cc nL own Ts D tys A) (q0 t0 : Nat) {cA : ClassId} {a n : Nat} {f : Int → Int} (ha : ws[q0]? = some (a, .inl (cA, n, .inl (zA f)))) (ht : tys[t0]? = some (cA, .int)) {i : Int} (h0 : 0 ≤ i) (h1 : i < (n : Int)) (hn : n < 2147483648) (dg : decode cc pc = .ok (.iaload, 1))
    (k : J p l e R s m args below meth c nL D A cells slots Q ws lv (pc + 1) (.int (zI (f i)) :: st)) : J p l e R s m args below meth c nL D A cells slots Q ws lv pc (.int (zI i) :: .ref a :: st) :=
  fun H locs ls hP hD hS hl => va_iald C.1 C.2.1 C.2.2.2.2.2.1 hP q0 t0 ha ht (zI_in h0 h1 hn) dg (by rw [zA_at f h0 (by omega)]; exact k H locs ls hP hD hS hl)
theorem j_iast (C : GC p s m args meth c cc nL own Ts D tys A) (q0 t0 : Nat) {cA : ClassId} {a n : Nat} {f : Int → Int} (ha : ws[q0]? = some (a, .inl (cA, n, .inl (zA f)))) (ht : tys[t0]? = some (cA, .int)) {i v : Int} (h0 : 0 ≤ i) (h1 : i < (n : Int)) (hn : n < 2147483648) {ws' : va_W} (hw : ws.set q0 (a, .inl (cA, n, .inl (zA (upZ f i v)))) = ws') (dg : decode cc pc = .ok (.iastore, 1))
    (k : J p l e R s m args below meth c nL D A cells slots Q ws' lv (pc + 1) st) : J p l e R s m args below meth c nL D A cells slots Q ws lv pc (.int (zI v) :: .int (zI i) :: .ref a :: st) := by
  subst hw
  exact fun H locs ls hP hD hS hl => va_iast C.1 C.2.1 C.2.2.2.2.2.1 hP hD hS q0 t0 ha ht (zI_in h0 h1 hn) dg (fun H1 locs1 hP1 hD1 hS1 => by
    rw [upd_zA f v h0 (by omega)] at hP1 hD1
    exact k H1 locs1 ls hP1 hD1 hS1 hl)
/-- a row of an array of arrays -/
theorem j_aald (C : GC p s m args meth c cc nL own Ts D tys A) (q0 t0 : Nat) {cA : ClassId} {a n : Nat} {t : FieldType} {g : Nat → Nat} (ha : ws[q0]? = some (a, .inl (cA, n, .inr (.inr (.inr (.inr (fun j => some (g j)))))))) (ht : tys[t0]? = some (cA, .array t)) {i : Int} (h0 : 0 ≤ i) (h1 : i < (n : Int)) (hn : n < 2147483648) (dg : decode cc pc = .ok (.aaload, 1))
    (k : J p l e R s m args below meth c nL D A cells slots Q ws lv (pc + 1) (.ref (g i.toNat) :: st)) : J p l e R s m args below meth c nL D A cells slots Q ws lv pc (.int (zI i) :: .ref a :: st) := by
  intro H locs ls hP hD hS hl
  obtain ⟨j, rfl⟩ := Int.eq_ofNat_of_zero_le h0
  rw [zI_nI (by omega)]
  have hj : j < n := by omega
  refine W.aald (v := .ref (g j)) (ty := .array t) C.1 C.2.1 (hP q0 _ ha) ((C.2.2.2.2.2.1.2 t0 _ ht).1 n (fun j => va_rf (some (g j)))) rfl (fun q => by cases q) (by show ¬ (nI j < 0 ∨ (arrV _ _ _).slots.size ≤ _); rw [arrV_size]; exact vp_in_nI hj (by omega)) (by rw [nI_clamp (by omega)]; show (arrV _ _ _).slots[_]? = _; rw [arrV_read _ _ hj]; rfl) rfl rfl dg ?_
  exact k H locs ls hP hD hS hl
theorem j_min (C : GC p s m args meth c cc nL own Ts D tys A) {index : Nat} (h1 : (Cond.methodLink own index Lib.Math.min.name).before args s = true) (h2 : (Cond.static Lib.Math.min.name).before args s = true) (h3 : (Cond.initialized "java/lang/Math").before args s = true) (h4 : (Cond.code Lib.Math.min.name Lib.Math.min.code 2 (some .int)).before args s = true)
    (hframes : 1 ≤ R.frames) (hlocals : (st.map fun v => v.category).sum + 13 ≤ R.locals) (hc : cells ≤ R.cells) (hs : slots ≤ R.slots) {a b : Int} (ha : zR a) (hb : zR b) (dg : decode cc pc = .ok (.invokestatic index, 3))
    (k : J p l e R s m args below meth c nL D A cells slots Q ws lv (pc + 3) (.int (zI (min a b)) :: st)) : J p l e R s m args below meth c nL D A cells slots Q ws lv pc (.int (zI b) :: .int (zI a) :: st) :=
  fun H locs ls hP hD hS hl => va_mmin C.1 C.2.1 (C.2.2.1.trans hl.1.symm) C.2.2.2.1 h1 h2 h3 h4 hframes hlocals hc hs dg (by
    have e : (if zI b < zI a then zI b else zI a) = zI (min a b) := by
      by_cases h : b < a
      · rw [if_pos ((zI_lt hb ha).mpr h), Int.min_eq_right (Int.le_of_lt h)]
      · rw [if_neg (fun q => h ((zI_lt hb ha).mp q)), Int.min_eq_left (by omega)]
    rw [e]
    exact k H locs ls hP hD hS hl)
end JR
