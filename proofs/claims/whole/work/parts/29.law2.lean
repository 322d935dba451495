/-! ===== the law: rows, and what holds at its loop's head ===== -/
def LI (t : Int) (c1 c2 c3 : ClassId) (h k : Nat → Nat) (o9 : Nat) (w : va_W) : Prop := ∃ (K Dm : Int → Int) (L : Int) (lo hi su db : Int → Int) (S dy li so sp : Int) (tu ah : Int → Int) (M : Int → Int → Int) (f9 : Nat → Int64) (th : Int) (K' Dm' lo' hi' su' db' : Int → Int) (X : Int → Int → Int) (ke se : Int → Int), w = (wG h c1 c2 K Dm L lo hi su db S dy li so sp tu ah M ++ [(o9, .inl (c3, 1, .inr (.inl f9)))]) ++ wN k c1 th L K' Dm' S lo' hi' su' db' dy li so sp X ke se ∧ Rel t K Dm L lo hi su db S li K' Dm' lo' hi' su' db'
theorem Rel.mix {t : Int} {K Dm : Int → Int} {L : Int} {lo hi su db : Int → Int} {S li : Int} {K' Dm' lo' hi' su' db' : Int → Int} (r : Rel t K Dm L lo hi su db S li K' Dm' lo' hi' su' db') (ah : Int → Int) : eqI L (mix Dm ah L) Dm' := fun j j0 j1 => by
  rw [mix_lt _ _ _ _ j0 j1]
  exact r.2.2.2.2.2.1 j j0 j1
theorem eqI.back {L : Int} (hL : L ≤ 12) {f g h : Int → Int} (e : eqI L f g) (x : Int → Int) : eqI L f (mix (mix g h 12) x 12) := fun j j0 j1 => by
  rw [mix_lt _ _ _ _ j0 (by omega), mix_lt _ _ _ _ j0 (by omega)]
  exact e j j0 j1
theorem lw_eq {f9 : Nat → Int64} {a b : Int} (h : a = b) : vp_updL f9 0 ((zI a).toInt64) 0 = (zI b).toInt64 := by
  subst h
  unfold vp_updL
  rw [if_pos rfl]
section JL
variable {p : Program} {l : Launch} {e : Env} {R : Room} {s : State} {m : MethodId} {args : Array Value} {below : List Frame} {meth : Method} {c : Code} {cc : ByteArray} {nL : Nat} {own : String} {Ts : List Cond} {D : va_G} {tys : List (ClassId × FieldType)} {A : Nat → Prop} {cells slots : Nat} {Q : State → Prop} {ws : va_W} {lv : List (Nat × Value)} {pc : Nat} {st : List Value}
theorem j_slen (C : GC p s m args meth c cc nL own Ts D tys A) {b n : Nat} {xs : Nat → Int32} (hX : va_X b n xs s s.heap) (hbl : b < s.heap.size) (hbA : ¬ A b) (hn : n < 2147483648) (dg : decode cc pc = .ok (.arraylength, 1))
    (k : J p l e R s m args below meth c nL D A cells slots Q ws lv (pc + 1) (.int (zI (n : Int)) :: st)) : J p l e R s m args below meth c nL D A cells slots Q ws lv pc (.ref b :: st) := by
  intro H locs ls hP hD hS hl
  refine va_slen C.1 C.2.1 hX hbl hbA hS dg ?_
  rw [show Int32.ofNat n = zI (n : Int) from (zI_nI hn).symm]
  exact k H locs ls hP hD hS hl
theorem j_sld (C : GC p s m args meth c cc nL own Ts D tys A) {b n : Nat} {xs : Nat → Int32} (hX : va_X b n xs s s.heap) (hbl : b < s.heap.size) (hbA : ¬ A b) (hn : n ≤ 1536) {j v : Int} (j0 : 0 ≤ j) (j1 : j < n) (hv : (xs j.toNat).toInt = v) (dg : decode cc pc = .ok (.iaload, 1))
    (k : J p l e R s m args below meth c nL D A cells slots Q ws lv (pc + 1) (.int (zI v) :: st)) : J p l e R s m args below meth c nL D A cells slots Q ws lv pc (.int (zI j) :: .ref b :: st) := by
  subst hv
  intro H locs ls hP hD hS hl
  refine va_sld C.1 C.2.1 hX hbl hbA hS (zI_in j0 j1 (by omega)) dg ?_
  have e : (zI j).toNatClampNeg = j.toNat := by
    obtain ⟨q, rfl⟩ := Int.eq_ofNat_of_zero_le j0
    rw [zI_nI (by omega), nI_clamp (by omega)]
    omega
  rw [e, ← zI_of (xs j.toNat)]
  exact k H locs ls hP hD hS hl
theorem j_iand (C : GC p s m args meth c cc nL own Ts D tys A) {x y v : Int32} (hv : x &&& y = v) (dg : decode cc pc = .ok (.iand, 1))
    (k : J p l e R s m args below meth c nL D A cells slots Q ws lv (pc + 1) (.int v :: st)) : J p l e R s m args below meth c nL D A cells slots Q ws lv pc (.int y :: .int x :: st) := by
  subst hv
  exact fun H locs ls hP hD hS hl => lv_iand C.1 C.2.1 dg (k H locs ls hP hD hS hl)
theorem j_tabIn (C : GC p s m args meth c cc nL own Ts D tys A) {dflt lo hi : Int} {offs : Array Int} {len : Nat} {x : Int32} {off : Int} (tgt : Nat) (dg : decode cc pc = .ok (.tableswitch dflt lo hi offs, len)) (h1 : ¬ x.toInt < lo) (h2 : ¬ hi < x.toInt) (ho : offs[(x.toInt - lo).toNat]? = some off) (ht : (pc : Int) + off = (tgt : Int))
    (k : J p l e R s m args below meth c nL D A cells slots Q ws lv tgt st) : J p l e R s m args below meth c nL D A cells slots Q ws lv pc (.int x :: st) :=
  fun H locs ls hP hD hS hl => lv_tableIn C.1 C.2.1 dg h1 h2 ho ht (k H locs ls hP hD hS hl)
theorem j_tabOut (C : GC p s m args meth c cc nL own Ts D tys A) {dflt lo hi : Int} {offs : Array Int} {len : Nat} {x : Int32} (tgt : Nat) (dg : decode cc pc = .ok (.tableswitch dflt lo hi offs, len)) (h1 : x.toInt < lo ∨ hi < x.toInt) (ht : (pc : Int) + dflt = (tgt : Int))
    (k : J p l e R s m args below meth c nL D A cells slots Q ws lv tgt st) : J p l e R s m args below meth c nL D A cells slots Q ws lv pc (.int x :: st) :=
  fun H locs ls hP hD hS hl => lv_tableOut C.1 C.2.1 dg h1 ht (k H locs ls hP hD hS hl)
theorem j_lcmpE (C : GC p s m args meth c cc nL own Ts D tys A) {x y : Int64} (he : x = y) (dg : decode cc pc = .ok (.lcmp, 1))
    (k : J p l e R s m args below meth c nL D A cells slots Q ws lv (pc + 1) (.int (zI 0) :: st)) : J p l e R s m args below meth c nL D A cells slots Q ws lv pc (.long y :: .long x :: st) := by
  subst he
  intro H locs ls hP hD hS hl
  refine W.lcmp C.1 C.2.1 dg ?_
  rw [show lg_cmp x x = zI 0 by unfold lg_cmp; rw [if_neg (show ¬ x > x from Int64.lt_irrefl), if_pos rfl, zI_0]]
  exact k H locs ls hP hD hS hl
theorem j_icmpE (C : GC p s m args meth c cc nL own Ts D tys A) {off : Int} (tgt : Nat) {a b : Int} (he : a = b) (dg : decode cc pc = .ok (.if_icmp .eq off, 3)) (ht : (pc : Int) + off = (tgt : Int))
    (kt : J p l e R s m args below meth c nL D A cells slots Q ws lv tgt st) : J p l e R s m args below meth c nL D A cells slots Q ws lv pc (.int (zI b) :: .int (zI a) :: st) := by
  subst he
  exact fun H locs ls hP hD hS hl => lv_icmp_eq C.1 C.2.1 dg ht (fun _ => kt H locs ls hP hD hS hl) (fun h => absurd rfl h)
theorem j_dcmpE (C : GC p s m args meth c cc nL own Ts D tys A) {x y : UInt64} {op : CmpOp} (he : Op.cmpValue (FP.dcmp x y) op = zI 0) (dg : decode cc pc = .ok (.dcmp op, 1))
    (k : J p l e R s m args below meth c nL D A cells slots Q ws lv (pc + 1) (.int (zI 0) :: st)) : J p l e R s m args below meth c nL D A cells slots Q ws lv pc (.double y :: .double x :: st) := by
  intro H locs ls hP hD hS hl
  refine lv_dcmp C.1 C.2.1 dg ?_
  rw [he]
  exact k H locs ls hP hD hS hl
theorem j_dstore (C : GC p s m args meth c cc nL own Ts D tys A) {i : Nat} {x : UInt64} {lv' : List (Nat × Value)} (dg : decode cc pc = .ok (.dstore i, 2)) (hi : i + 1 < nL) (ks : List Nat) (hp : lv_pick ((i, Value.double x) :: lv.filter (lvF2 i)) ks = lv')
    (k : J p l e R s m args below meth c nL D A cells slots Q ws lv' (pc + 2) st) : J p l e R s m args below meth c nL D A cells slots Q ws lv pc (.double x :: st) :=
  fun H locs ls hP hD hS hl => lv_dstore C.1 C.2.1 dg hl hi rfl (fun ls' hl' => k H locs ls' hP hD hS (lv_sub hl' ks hp))
theorem j_dload (C : GC p s m args meth c cc nL own Ts D tys A) {i : Nat} {x : UInt64} (dg : decode cc pc = .ok (.dload i, 2)) (n : Nat) (hn : lv[n]? = some (i, .double x))
    (k : J p l e R s m args below meth c nL D A cells slots Q ws lv (pc + 2) (.double x :: st)) : J p l e R s m args below meth c nL D A cells slots Q ws lv pc st :=
  fun H locs ls hP hD hS hl => lv_dload C.1 C.2.1 dg (lv_at hl n hn) (k H locs ls hP hD hS hl)
end JL
theorem mean_eq_all : (List.range 481).all (fun a => (List.range 13).all (fun b => b == 0 || decide (Op.cmpValue (FP.dcmp (FP.ddiv (FP.i2d (nI a)) (FP.i2d (nI b))) (FP.ddiv (FP.i2d (nI a)) (FP.i2d (nI b)))) .l = 0))) = true := by decide +kernel
theorem mean_eq {a b : Int} (a0 : 0 ≤ a) (a1 : a ≤ 480) (b0 : 1 ≤ b) (b1 : b ≤ 12) : Op.cmpValue (FP.dcmp (FP.ddiv (FP.i2d (zI a)) (FP.i2d (zI b))) (FP.ddiv (FP.i2d (zI a)) (FP.i2d (zI b)))) .l = zI 0 := by
  obtain ⟨n, rfl⟩ := Int.eq_ofNat_of_zero_le a0
  obtain ⟨k, rfl⟩ := Int.eq_ofNat_of_zero_le (show 0 ≤ b by omega)
  rw [zI_nI (by omega), zI_nI (by omega), zI_0]
  have h := List.all_eq_true.mp mean_eq_all n (List.mem_range.mpr (by omega))
  have h2 := List.all_eq_true.mp h k (List.mem_range.mpr (by omega))
  simp only [Bool.or_eq_true, beq_iff_eq, decide_eq_true_eq] at h2
  rcases h2 with h2 | h2
  · omega
  · exact h2
theorem mean_same {D D' : Int → Int} {L : Int} (hL0 : 0 ≤ L) (hL : L ≤ 12) (hf : ∀ j, 0 ≤ j → j < L → 0 ≤ D j ∧ D j ≤ 40) (he : zs D 0 (L - 1 + 1) = zs D' 0 (L - 1 + 1)) : Op.cmpValue (FP.dcmp (if L = 0 then FP.dconst0 else FP.ddiv (FP.i2d (zI (zs D 0 (L - 1 + 1)))) (FP.i2d (zI L))) (if L = 0 then FP.dconst0 else FP.ddiv (FP.i2d (zI (zs D' 0 (L - 1 + 1)))) (FP.i2d (zI L)))) .l = zI 0 := by
  rw [← he]
  by_cases q : L = 0
  · rw [if_pos q, zI_0]
    decide +kernel
  · rw [if_neg q]
    have z := zs_bnd hf 0 (L - 1 + 1) (by omega) (by omega) (by omega)
    exact mean_eq (by omega) (by omega) (by omega) (by omega)
