/-! ===== rows for doubles; no NaN in a mean ===== -/
section JD
variable {p : Program} {l : Launch} {e : Env} {R : Room} {s : State} {m : MethodId} {args : Array Value} {below : List Frame} {meth : Method} {c : Code} {cc : ByteArray} {nL : Nat} {own : String} {Ts : List Cond} {D : va_G} {tys : List (ClassId × FieldType)} {A : Nat → Prop} {cells slots : Nat} {Q : State → Prop} {ws : va_W} {lv : List (Nat × Value)} {pc : Nat} {st : List Value}
theorem j_dconst0 (C : GC p s m args meth c cc nL own Ts D tys A) (dg : decode cc pc = .ok (.dconst 0, 1))
    (k : J p l e R s m args below meth c nL D A cells slots Q ws lv (pc + 1) (.double FP.dconst0 :: st)) : J p l e R s m args below meth c nL D A cells slots Q ws lv pc st :=
  fun H locs ls hP hD hS hl => lv_dconst0 C.1 C.2.1 dg (k H locs ls hP hD hS hl)
theorem j_i2d (C : GC p s m args meth c cc nL own Ts D tys A) {x : Int32} (dg : decode cc pc = .ok (.i2d, 1))
    (k : J p l e R s m args below meth c nL D A cells slots Q ws lv (pc + 1) (.double (FP.i2d x) :: st)) : J p l e R s m args below meth c nL D A cells slots Q ws lv pc (.int x :: st) :=
  fun H locs ls hP hD hS hl => lv_i2d C.1 C.2.1 dg (k H locs ls hP hD hS hl)
theorem j_ddiv (C : GC p s m args meth c cc nL own Ts D tys A) {x y : UInt64} (dg : decode cc pc = .ok (.ddiv, 1)) (hn : vf_n64 (FP.ddiv x y))
    (k : J p l e R s m args below meth c nL D A cells slots Q ws lv (pc + 1) (.double (FP.ddiv x y) :: st)) : J p l e R s m args below meth c nL D A cells slots Q ws lv pc (.double y :: .double x :: st) :=
  fun H locs ls hP hD hS hl => lv_ddiv C.1 C.2.1 dg hn (k H locs ls hP hD hS hl)
end JD
theorem no_nan_all : (List.range 481).all (fun a => (List.range 13).all (fun b => b == 0 || decide (FP.ddiv (FP.i2d (nI a)) (FP.i2d (nI b)) &&& 0x7fffffffffffffff ≤ 0x7ff0000000000000))) = true := by decide +kernel
theorem no_nan {a b : Int} (a0 : 0 ≤ a) (a1 : a ≤ 480) (b0 : 1 ≤ b) (b1 : b ≤ 12) : vf_n64 (FP.ddiv (FP.i2d (zI a)) (FP.i2d (zI b))) := by
  obtain ⟨n, rfl⟩ := Int.eq_ofNat_of_zero_le a0
  obtain ⟨k, rfl⟩ := Int.eq_ofNat_of_zero_le (show 0 ≤ b by omega)
  rw [zI_nI (by omega), zI_nI (by omega)]
  have h := List.all_eq_true.mp no_nan_all n (List.mem_range.mpr (by omega))
  have h2 := List.all_eq_true.mp h k (List.mem_range.mpr (by omega))
  simp only [Bool.or_eq_true, beq_iff_eq, decide_eq_true_eq] at h2
  rcases h2 with h2 | h2
  · omega
  · exact h2
/-- from a on, one place down, as far as i -/
def shA (f : Int → Int) (a i : Int) : Int → Int := fun j => if a ≤ j ∧ j + 1 < i then f (j + 1) else f j
theorem shA_0 (f : Int → Int) (a : Int) : shA f a (a + 1) = f := by
  funext j
  unfold shA
  rw [if_neg (by omega)]
theorem shA_up (f : Int → Int) (a i : Int) (h : a + 1 ≤ i) : shA f a (i + 1) = upZ (shA f a i) (i - 1) (shA f a i i) := by
  funext j
  unfold upZ shA
  by_cases h1 : j = i - 1
  · subst h1
    rw [if_pos (by omega), if_pos rfl, if_neg (by omega)]
    congr 1; omega
  · rw [if_neg h1]
    by_cases h2 : a ≤ j ∧ j + 1 < i
    · rw [if_pos h2, if_pos (by omega)]
    · rw [if_neg h2, if_neg (by omega)]
