/-! ===== a matrix in a row of 13 by 13 ===== -/
def flt (X : Int → Int → Int) : Int → Int := fun k => X (k / 13) (k % 13)
theorem flt_at (X : Int → Int → Int) (a b : Int) (h0 : 0 ≤ b) (h1 : b < 13) : flt X (13 * a + b) = X a b := by
  unfold flt
  rw [show (13 * a + b) / 13 = a by omega, show (13 * a + b) % 13 = b by omega]
theorem flt_up (X : Int → Int → Int) (a b v : Int) (h0 : 0 ≤ b) (h1 : b < 13) : upZ (flt X) (13 * a + b) v = flt (up2 X a b v) := by
  funext k
  unfold upZ flt up2
  by_cases h : k = 13 * a + b
  · rw [if_pos h, if_pos (by omega)]
  · rw [if_neg h, if_neg (by omega)]
theorem flt_of (f : Int → Int) : f = flt (fun a b => f (13 * a + b)) := by
  funext k
  show f k = f (13 * (k / 13) + k % 13)
  rw [show 13 * (k / 13) + k % 13 = k by omega]
def wN (h : Nat → Nat) (c1 : ClassId) (th L : Int) (K Dm : Int → Int) (S : Int) (lo hi su db : Int → Int) (dy li so sp : Int) (X : Int → Int → Int) (ke se : Int → Int) : va_W :=
  [(h 0, .inr (1, [.int (zI th), .int (zI L), .ref (h 1), .ref (h 2), .int (zI S), .ref (h 3), .ref (h 4), .ref (h 5), .ref (h 6), .int (zI dy), .int (zI li), .int (zI so), .int (zI sp), .ref (h 7), .ref (h 8), .ref (h 9)])),
   (h 1, .inl (c1, 12, .inl (zA K))), (h 2, .inl (c1, 12, .inl (zA Dm))), (h 3, .inl (c1, 16, .inl (zA lo))), (h 4, .inl (c1, 16, .inl (zA hi))), (h 5, .inl (c1, 16, .inl (zA su))), (h 6, .inl (c1, 16, .inl (zA db))), (h 7, .inl (c1, 169, .inl (zA (flt X)))), (h 8, .inl (c1, 12, .inl (zA ke))), (h 9, .inl (c1, 12, .inl (zA se)))]
section JX
variable {p : Program} {l : Launch} {e : Env} {R : Room} {s : State} {m : MethodId} {args : Array Value} {below : List Frame} {meth : Method} {c : Code} {cc : ByteArray} {nL : Nat} {own : String} {Ts : List Cond} {D : va_G} {tys : List (ClassId × FieldType)} {A : Nat → Prop} {cells slots : Nat} {Q : State → Prop} {ws : va_W} {lv : List (Nat × Value)} {pc : Nat} {st : List Value}
theorem j_xald (C : GC p s m args meth c cc nL own Ts D tys A) (a b : Int) {i : Int} (hi : i = 13 * a + b) (a0 : 0 ≤ a) (a1 : a < 13) (b0 : 0 ≤ b) (b1 : b < 13) (q0 t0 : Nat) {cA : ClassId} {q : Nat} {X : Int → Int → Int} (ha : ws[q0]? = some (q, .inl (cA, 169, .inl (zA (flt X))))) (ht : tys[t0]? = some (cA, .int)) (dg : decode cc pc = .ok (.iaload, 1))
    (k : J p l e R s m args below meth c nL D A cells slots Q ws lv (pc + 1) (.int (zI (X a b)) :: st)) : J p l e R s m args below meth c nL D A cells slots Q ws lv pc (.int (zI i) :: .ref q :: st) := by
  subst hi
  exact j_iald C q0 t0 ha ht (by omega) (by omega) (by decide) dg (by rw [flt_at X a b b0 b1]; exact k)
theorem j_xast (C : GC p s m args meth c cc nL own Ts D tys A) (a b : Int) {i : Int} (hi : i = 13 * a + b) (a0 : 0 ≤ a) (a1 : a < 13) (b0 : 0 ≤ b) (b1 : b < 13) (q0 t0 : Nat) {cA : ClassId} {q : Nat} {X : Int → Int → Int} (ha : ws[q0]? = some (q, .inl (cA, 169, .inl (zA (flt X))))) (ht : tys[t0]? = some (cA, .int)) {v : Int} {ws' : va_W} (hw : ws.set q0 (q, .inl (cA, 169, .inl (zA (flt (up2 X a b v))))) = ws') (dg : decode cc pc = .ok (.iastore, 1))
    (k : J p l e R s m args below meth c nL D A cells slots Q ws' lv (pc + 1) st) : J p l e R s m args below meth c nL D A cells slots Q ws lv pc (.int (zI v) :: .int (zI i) :: .ref q :: st) := by
  subst hi
  exact j_iast C q0 t0 ha ht (by omega) (by omega) (by decide) (by rw [flt_up X a b v b0 b1]; exact hw) dg k
theorem j_ldc (C : GC p s m args meth c cc nL own Ts D tys A) {i : Nat} {v : Int32} {z : Int} (hc : (Jvm.Cond.constant own i v).before args s = true) (hv : v = zI z) (dg : decode cc pc = .ok (.ldc i, 2))
    (k : J p l e R s m args below meth c nL D A cells slots Q ws lv (pc + 2) (.int (zI z) :: st)) : J p l e R s m args below meth c nL D A cells slots Q ws lv pc st := by
  subst hv
  exact fun H locs ls hP hD hS hl => lv_ldc C.1 C.2.1 C.2.2.2.1 hc dg (k H locs ls hP hD hS hl)
theorem j_ishr (C : GC p s m args meth c cc nL own Ts D tys A) {x y v : Int32} (hv : x >>> (y &&& 31) = v) (dg : decode cc pc = .ok (.ishr, 1))
    (k : J p l e R s m args below meth c nL D A cells slots Q ws lv (pc + 1) (.int v :: st)) : J p l e R s m args below meth c nL D A cells slots Q ws lv pc (.int y :: .int x :: st) := by
  subst hv
  exact fun H locs ls hP hD hS hl => lv_ishr C.1 C.2.1 dg (k H locs ls hP hD hS hl)
theorem j_iushr (C : GC p s m args meth c cc nL own Ts D tys A) {x y v : Int32} (hv : (x.toUInt32 >>> (y.toUInt32 &&& Int32.toUInt32 31)).toInt32 = v) (dg : decode cc pc = .ok (.iushr, 1))
    (k : J p l e R s m args below meth c nL D A cells slots Q ws lv (pc + 1) (.int v :: st)) : J p l e R s m args below meth c nL D A cells slots Q ws lv pc (.int y :: .int x :: st) :=
  fun H locs ls hP hD hS hl => lv_iushr C.1 C.2.1 dg hv (k H locs ls hP hD hS hl)
theorem j_ior (C : GC p s m args meth c cc nL own Ts D tys A) {x y v : Int32} (hv : x ||| y = v) (dg : decode cc pc = .ok (.ior, 1))
    (k : J p l e R s m args below meth c nL D A cells slots Q ws lv (pc + 1) (.int v :: st)) : J p l e R s m args below meth c nL D A cells slots Q ws lv pc (.int y :: .int x :: st) := by
  subst hv
  exact fun H locs ls hP hD hS hl => lv_ior C.1 C.2.1 dg (k H locs ls hP hD hS hl)
theorem fits_int (x : Int32) : fits .int (.int x) = true := rfl
/-- the first n of an int array into another one -/
theorem j_cpy (C : GC p s m args meth c cc nL own Ts D tys A) {index : Nat} (h1 : (Cond.methodLink own index arraycopyName).before args s = true) (h2 : (Cond.native arraycopyName).before args s = true) (h3 : (Cond.static arraycopyName).before args s = true) (h4 : (Cond.initialized "java/lang/System").before args s = true)
    (q0 q1 t0 : Nat) {a0 a : Nat} {cA : ClassId} {n0 n1 : Nat} {f g : Int → Int} (ha0 : ws[q0]? = some (a0, .inl (cA, n0, .inl (zA f)))) (ha1 : ws[q1]? = some (a, .inl (cA, n1, .inl (zA g)))) (ht : tys[t0]? = some (cA, .int)) (n : Nat) (hn : n < 2147483648) (k0 : n ≤ n0) (k1 : n ≤ n1)
    (hframes : 1 ≤ R.frames) (hlocals : (st.map fun v => v.category).sum + (nativeFrameWords "java/lang/System" "arraycopy" 5 + 11) ≤ R.locals) (dg : decode cc pc = .ok (.invokestatic index, 3)) {ws' : va_W} (hw : ws.set q1 (a, .inl (cA, n1, .inl (zA (mix f g n)))) = ws')
    (k : J p l e R s m args below meth c nL D A cells slots Q ws' lv (pc + 3) st) : J p l e R s m args below meth c nL D A cells slots Q ws lv pc (.int (zI n) :: .int (zI 0) :: .ref a :: .int (zI 0) :: .ref a0 :: st) := by
  subst hw
  intro H locs ls hP hD hS hl
  rw [zI_nI hn, zI_0]
  have e0 : (0 : Int32).toNatClampNeg = 0 := by decide +kernel
  have en : (nI n).toNatClampNeg = n := nI_clamp (by omega)
  have hz : va_cpy (zA f) (zA g) 0 0 n = zA (mix f g n) := by
    funext j
    unfold va_cpy zA mix
    by_cases h : 0 ≤ j ∧ j < 0 + n
    · rw [if_pos h, if_pos (by omega)]
      congr 2; omega
    · rw [if_neg h, if_neg (by omega)]
  refine va_copyi C.1 C.2.1 (C.2.2.1.trans hl.1.symm) C.2.2.2.1 h1 h2 h3 h4 C.2.2.2.2.2.1 hP hD hS q0 q1 t0 t0 ha0 ha1 ht ht rfl (by decide) (by decide) (nI_pos (by omega)) (by rw [e0, en]; omega) (by rw [e0, en]; omega) (fun i _ => fits_int _) hframes hlocals dg (fun H1 locs1 hP1 hD1 hS1 => ?_)
  rw [e0, en, hz] at hP1 hD1
  exact k H1 locs1 ls hP1 hD1 hS1 hl
/-- new int[n] -/
theorem j_newa (C : GC p s m args meth c cc nL own Ts D tys A) (harr : (Cond.arrayClass .int).before args s = true) {z : Int} {n : Nat} (hz : z = n) (hn : n < 1000000) (hc : cells + 1 ≤ R.cells) (hs : slots + n ≤ R.slots) (dg : decode cc pc = .ok (.newarray .int, 2))
    (k : ∀ (q : Nat) (cA : ClassId), GC p s m args meth c cc nL own Ts D (tys ++ [(cA, .int)]) A → J p l e R s m args below meth c nL D A (cells + 1) (slots + n) Q (ws ++ [(q, .inl (cA, n, .inl (zA (fun _ => 0))))]) lv (pc + 2) (.ref q :: st)) : J p l e R s m args below meth c nL D A cells slots Q ws lv pc (.int (zI z) :: st) := by
  subst hz
  intro H locs ls hP hD hS hl
  rw [zI_nI (by omega)]
  refine va_newa (atype := .int) (ty := .int) (a0 := (n, .inl (fun _ => 0))) C.1 C.2.1 harr rfl C.2.2.2.2.2.1 hP hD hS C.2.2.2.2.2.2.1 (fun _ => rfl) (nI_pos (by omega)) (nI_clamp (by omega)) (by show n * 4 ≤ _; omega) hc hs dg (fun q cA H1 hK1 hP1 hD1 hS1 => ?_)
  have hz : (fun _ : Nat => (0 : Int32)) = zA (fun _ => 0) := funext fun _ => zI_0.symm
  rw [hz] at hP1 hD1
  exact k q cA ⟨C.1, C.2.1, C.2.2.1, C.2.2.2.1, C.2.2.2.2.1, hK1, C.2.2.2.2.2.2⟩ H1 locs ls hP1 hD1 hS1 hl
theorem j_alen (C : GC p s m args meth c cc nL own Ts D tys A) (q0 t0 : Nat) {a : Nat} {cA : ClassId} {x : vp_A} (ha : ws[q0]? = some (a, .inl (cA, x))) {ty : FieldType} (ht : tys[t0]? = some (cA, ty)) {z : Int} (hv : Int32.ofNat x.1 = zI z) (dg : decode cc pc = .ok (.arraylength, 1))
    (k : J p l e R s m args below meth c nL D A cells slots Q ws lv (pc + 1) (.int (zI z) :: st)) : J p l e R s m args below meth c nL D A cells slots Q ws lv pc (.ref a :: st) :=
  fun H locs ls hP hD hS hl => va_alen C.1 C.2.1 C.2.2.2.2.2.1 hP q0 t0 ha ht hv dg (k H locs ls hP hD hS hl)
/-- cells that nobody needs any more -/
theorem J.drop {a b : va_W} (k : J p l e R s m args below meth c nL D A cells slots Q a lv pc st) : J p l e R s m args below meth c nL D A cells slots Q (a ++ b) lv pc st := by
  intro H locs ls hP hD hS hl
  refine k H locs ls (fun i q hi => ?_) ⟨fun i j x y hi hj hxy => ?_, fun i q hi => ?_⟩ hS hl
  · have hl := (List.getElem?_eq_some_iff.mp hi).1
    exact hP i q (by rw [List.getElem?_append_left hl]; exact hi)
  · have h1 := (List.getElem?_eq_some_iff.mp hi).1
    have h2 := (List.getElem?_eq_some_iff.mp hj).1
    exact hD.1 i j x y (by rw [List.getElem?_append_left h1]; exact hi) (by rw [List.getElem?_append_left h2]; exact hj) hxy
  · have hl := (List.getElem?_eq_some_iff.mp hi).1
    exact hD.2 i q (by rw [List.getElem?_append_left hl]; exact hi)
theorem J.swap {a b : va_W} (k : J p l e R s m args below meth c nL D A cells slots Q (b ++ a) lv pc st) : J p l e R s m args below meth c nL D A cells slots Q (a ++ b) lv pc st := by
  intro H locs ls hP hD hS hl
  exact k H locs ls (va_P.swap (a := []) (b := a) (c := b) hP) (va_D.swap (a := []) (b := a) (c := b) hD) hS hl
/-- a part of the world: what the callee leaves, and the rest as it was -/
theorem frame_back {A : Nat → Prop} {a b a1 : va_W} {H0 H H1 : Heap} {locs : List Loc} (hP : va_P D vwCl (a ++ b) H) (hD : va_D A (a ++ b)) (hF : ∀ q, va_A a H.size q → A q) (hk : ∀ q : Nat, q < H.size → ¬ va_A a H.size q → H1[q]? = H[q]?) (hP1 : va_P D vwCl a1 H1) (hD1 : va_D (va_A a H.size) a1) : va_P D vwCl (a1 ++ b) H1 ∧ va_D A (a1 ++ b) := by
  have at' : ∀ (i : Nat) (q : Nat × va_E), b[i]? = some q → (a ++ b)[a.length + i]? = some q := fun i q hi => by
    rw [List.getElem?_append_right (by omega), show a.length + i - a.length = i by omega]; exact hi
  have apart : ∀ (i : Nat) (q : Nat × va_E), b[i]? = some q → q.1 < H.size ∧ ¬ va_A a H.size q.1 := by
    intro i q hi
    have hl := (hP _ q (at' i q hi)).lt
    refine ⟨hl, fun h => ?_⟩
    rcases h with ⟨k2, e2, h⟩ | h
    · have hk2 := (List.getElem?_eq_some_iff.mp h).1
      have := hD.1 (a.length + i) k2 q (q.1, e2) (at' i q hi) (by rw [List.getElem?_append_left hk2]; exact h) rfl
      omega
    · omega
  refine ⟨hP1.app (fun i q hi => ?_), va_D.app (hD1.weaken (fun _ q _ h => hF q.1 h)) ⟨fun i j x y hi hj hxy => ?_, fun i q hi => hD.2 _ q (at' i q hi)⟩ (fun i j x y hx hy hxy => ?_)⟩
  · obtain ⟨g1, g2⟩ := apart i q hi
    exact (hP _ q (at' i q hi)).kept (hk q.1 g1 g2)
  · have := hD.1 _ _ x y (at' i x hi) (at' j y hj) hxy
    omega
  · exact (apart j y hy).2 (by rw [← hxy]; exact hD1.2 i x hx)
theorem j_callFI (C : GC p s m args meth c cc nL own Ts D tys A) {y : MethodName} {wy : List Cond} {rm' : Room} {bytes : ByteArray} {maxL n index mc ms h : Nat} {ret : Option FieldType} {RX : String} {As rest : List Value} {w0 w1 wr : va_W} {tys' : List (ClassId × FieldType)} {r0 : Int32} (hM : cI l y wy rm' D tys' (.ref h :: As) w0 w1 r0 mc ms) (ks : List Nat) (hks : ks.filterMap (fun i => tys[i]?) = tys') (cw : CallW R s args own RX index y bytes maxL ret wy rm' mc ms n)
    (q0 : Nat) {ci : Nat} {fs : List Value} {q : vw_C} (hc : vwCl[ci]? = some q) (he : w0[q0]? = some (h, .inr (ci, fs))) (hq : q.1 = RX) (dg : decode cc pc = .ok (.invokevirtual index, 3)) (hn : As.length = n) (hst : st = As.reverse ++ .ref h :: rest) (hro : (rest.map fun v => v.category).sum ≤ 8) (hf : cells + mc ≤ R.cells ∧ slots + ms ≤ R.slots)
    (k : J p l e R s m args below meth c nL D A (cells + mc) (slots + ms) Q (w1 ++ wr) lv (pc + 3) (.int r0 :: rest)) : J p l e R s m args below meth c nL D A cells slots Q (w0 ++ wr) lv pc st := by
  subst hst; subst hq
  intro H locs ls hP hD hS hl
  have hlen : ∀ (i : Nat) (x : Nat × va_E), w0[i]? = some x → (w0 ++ wr)[i]? = some x := fun i x hi => by rw [List.getElem?_append_left (List.getElem?_eq_some_iff.mp hi).1]; exact hi
  have hPc : va_P D vwCl w0 H := fun i x hi => hP i x (hlen i x hi)
  have hDc : va_D A w0 := ⟨fun i j x y hi hj hxy => hD.1 i j x y (hlen i x hi) (hlen j y hj) hxy, fun i x hi => hD.2 i x (hlen i x hi)⟩
  have hFc := free_all hDc hS C.2.2.2.2.2.2.1
  have hKc : va_K D vwCl tys' s := C.2.2.2.2.2.1.sub ks hks
  refine va_calli (va_runV (As := As) (rest := rest) ⟨C.1, C.2.1, C.2.2.1, C.2.2.2.1, C.2.2.2.2.1⟩ (hM H.size) cw ⟨cP.blind, va_recv C.2.2.2.2.2.1 hPc hc he, fun U hU hW => ⟨rfl, by rw [hU], by rw [hU]; exact hPc, va_K.moved hW.alike hKc, hDc.weaken (fun _ _ _ _ => trivial)⟩⟩ rfl hn hl.1 rfl (lv_room hro) dg hf) hS (fun q _ h => hFc q h) hFc (fun r u t H1 locs1 ht hvm hw hB hz1 hk1 hS1 => ?_)
  obtain ⟨hP1, hK1, hD1⟩ := hB
  rw [ht] at hP1
  have hw : r = r0 := hw
  subst hw
  obtain ⟨hP2, hD2⟩ := frame_back (H0 := s.heap) (locs := locs) hP hD hFc hk1 hP1 hD1
  exact k H1 locs1 ls hP2 hD2 hS1 hl
theorem j_callFL (C : GC p s m args meth c cc nL own Ts D tys A) {y : MethodName} {wy : List Cond} {rm' : Room} {bytes : ByteArray} {maxL n index mc ms h : Nat} {ret : Option FieldType} {RX : String} {As rest : List Value} {w0 w1 wr : va_W} {tys' : List (ClassId × FieldType)} {r0 : Int64} (hM : cL l y wy rm' D tys' (.ref h :: As) w0 w1 r0 mc ms) (ks : List Nat) (hks : ks.filterMap (fun i => tys[i]?) = tys') (cw : CallW R s args own RX index y bytes maxL ret wy rm' mc ms n)
    (q0 : Nat) {ci : Nat} {fs : List Value} {q : vw_C} (hc : vwCl[ci]? = some q) (he : w0[q0]? = some (h, .inr (ci, fs))) (hq : q.1 = RX) (dg : decode cc pc = .ok (.invokevirtual index, 3)) (hn : As.length = n) (hst : st = As.reverse ++ .ref h :: rest) (hro : (rest.map fun v => v.category).sum ≤ 8) (hf : cells + mc ≤ R.cells ∧ slots + ms ≤ R.slots)
    (k : J p l e R s m args below meth c nL D A (cells + mc) (slots + ms) Q (w1 ++ wr) lv (pc + 3) (.long r0 :: rest)) : J p l e R s m args below meth c nL D A cells slots Q (w0 ++ wr) lv pc st := by
  subst hst; subst hq
  intro H locs ls hP hD hS hl
  have hlen : ∀ (i : Nat) (x : Nat × va_E), w0[i]? = some x → (w0 ++ wr)[i]? = some x := fun i x hi => by rw [List.getElem?_append_left (List.getElem?_eq_some_iff.mp hi).1]; exact hi
  have hPc : va_P D vwCl w0 H := fun i x hi => hP i x (hlen i x hi)
  have hDc : va_D A w0 := ⟨fun i j x y hi hj hxy => hD.1 i j x y (hlen i x hi) (hlen j y hj) hxy, fun i x hi => hD.2 i x (hlen i x hi)⟩
  have hFc := free_all hDc hS C.2.2.2.2.2.2.1
  have hKc : va_K D vwCl tys' s := C.2.2.2.2.2.1.sub ks hks
  refine va_calll (va_runV (As := As) (rest := rest) ⟨C.1, C.2.1, C.2.2.1, C.2.2.2.1, C.2.2.2.2.1⟩ (hM H.size) cw ⟨cP.blind, va_recv C.2.2.2.2.2.1 hPc hc he, fun U hU hW => ⟨rfl, by rw [hU], by rw [hU]; exact hPc, va_K.moved hW.alike hKc, hDc.weaken (fun _ _ _ _ => trivial)⟩⟩ rfl hn hl.1 rfl (lv_room hro) dg hf) hS (fun q _ h => hFc q h) hFc (fun r u t H1 locs1 ht hvm hw hB hz1 hk1 hS1 => ?_)
  obtain ⟨hP1, hK1, hD1⟩ := hB
  rw [ht] at hP1
  have hw : r = r0 := hw
  subst hw
  obtain ⟨hP2, hD2⟩ := frame_back (H0 := s.heap) (locs := locs) hP hD hFc hk1 hP1 hD1
  exact k H1 locs1 ls hP2 hD2 hS1 hl
theorem j_callFD (C : GC p s m args meth c cc nL own Ts D tys A) {y : MethodName} {wy : List Cond} {rm' : Room} {bytes : ByteArray} {maxL n index mc ms h : Nat} {ret : Option FieldType} {RX : String} {As rest : List Value} {w0 w1 wr : va_W} {tys' : List (ClassId × FieldType)} {r0 : UInt64} (hM : cD l y wy rm' D tys' (.ref h :: As) w0 w1 r0 mc ms) (ks : List Nat) (hks : ks.filterMap (fun i => tys[i]?) = tys') (cw : CallW R s args own RX index y bytes maxL ret wy rm' mc ms n)
    (q0 : Nat) {ci : Nat} {fs : List Value} {q : vw_C} (hc : vwCl[ci]? = some q) (he : w0[q0]? = some (h, .inr (ci, fs))) (hq : q.1 = RX) (dg : decode cc pc = .ok (.invokevirtual index, 3)) (hn : As.length = n) (hst : st = As.reverse ++ .ref h :: rest) (hro : (rest.map fun v => v.category).sum ≤ 8) (hf : cells + mc ≤ R.cells ∧ slots + ms ≤ R.slots)
    (k : J p l e R s m args below meth c nL D A (cells + mc) (slots + ms) Q (w1 ++ wr) lv (pc + 3) (.double r0 :: rest)) : J p l e R s m args below meth c nL D A cells slots Q (w0 ++ wr) lv pc st := by
  subst hst; subst hq
  intro H locs ls hP hD hS hl
  have hlen : ∀ (i : Nat) (x : Nat × va_E), w0[i]? = some x → (w0 ++ wr)[i]? = some x := fun i x hi => by rw [List.getElem?_append_left (List.getElem?_eq_some_iff.mp hi).1]; exact hi
  have hPc : va_P D vwCl w0 H := fun i x hi => hP i x (hlen i x hi)
  have hDc : va_D A w0 := ⟨fun i j x y hi hj hxy => hD.1 i j x y (hlen i x hi) (hlen j y hj) hxy, fun i x hi => hD.2 i x (hlen i x hi)⟩
  have hFc := free_all hDc hS C.2.2.2.2.2.2.1
  have hKc : va_K D vwCl tys' s := C.2.2.2.2.2.1.sub ks hks
  refine va_calld (va_runV (As := As) (rest := rest) ⟨C.1, C.2.1, C.2.2.1, C.2.2.2.1, C.2.2.2.2.1⟩ (hM H.size) cw ⟨cP.blind, va_recv C.2.2.2.2.2.1 hPc hc he, fun U hU hW => ⟨rfl, by rw [hU], by rw [hU]; exact hPc, va_K.moved hW.alike hKc, hDc.weaken (fun _ _ _ _ => trivial)⟩⟩ rfl hn hl.1 rfl (lv_room hro) dg hf) hS (fun q _ h => hFc q h) hFc (fun r u t H1 locs1 ht hvm hw hB hz1 hk1 hS1 => ?_)
  obtain ⟨hP1, hK1, hD1⟩ := hB
  rw [ht] at hP1
  have hw : r = r0 := hw
  subst hw
  obtain ⟨hP2, hD2⟩ := frame_back (H0 := s.heap) (locs := locs) hP hD hFc hk1 hP1 hD1
  exact k H1 locs1 ls hP2 hD2 hS1 hl
theorem j_callFV (C : GC p s m args meth c cc nL own Ts D tys A) {y : MethodName} {wy : List Cond} {rm' : Room} {bytes : ByteArray} {maxL n index mc ms h : Nat} {ret : Option FieldType} {RX : String} {As rest : List Value} {w0 w1 wr : va_W} {tys' : List (ClassId × FieldType)}  (hM : cV l y wy rm' D tys' (.ref h :: As) w0 w1  mc ms) (ks : List Nat) (hks : ks.filterMap (fun i => tys[i]?) = tys') (cw : CallW R s args own RX index y bytes maxL ret wy rm' mc ms n)
    (q0 : Nat) {ci : Nat} {fs : List Value} {q : vw_C} (hc : vwCl[ci]? = some q) (he : w0[q0]? = some (h, .inr (ci, fs))) (hq : q.1 = RX) (dg : decode cc pc = .ok (.invokevirtual index, 3)) (hn : As.length = n) (hst : st = As.reverse ++ .ref h :: rest) (hro : (rest.map fun v => v.category).sum ≤ 8) (hf : cells + mc ≤ R.cells ∧ slots + ms ≤ R.slots)
    (k : J p l e R s m args below meth c nL D A (cells + mc) (slots + ms) Q (w1 ++ wr) lv (pc + 3) rest) : J p l e R s m args below meth c nL D A cells slots Q (w0 ++ wr) lv pc st := by
  subst hst; subst hq
  intro H locs ls hP hD hS hl
  have hlen : ∀ (i : Nat) (x : Nat × va_E), w0[i]? = some x → (w0 ++ wr)[i]? = some x := fun i x hi => by rw [List.getElem?_append_left (List.getElem?_eq_some_iff.mp hi).1]; exact hi
  have hPc : va_P D vwCl w0 H := fun i x hi => hP i x (hlen i x hi)
  have hDc : va_D A w0 := ⟨fun i j x y hi hj hxy => hD.1 i j x y (hlen i x hi) (hlen j y hj) hxy, fun i x hi => hD.2 i x (hlen i x hi)⟩
  have hFc := free_all hDc hS C.2.2.2.2.2.2.1
  have hKc : va_K D vwCl tys' s := C.2.2.2.2.2.1.sub ks hks
  refine va_callv (va_runV (As := As) (rest := rest) ⟨C.1, C.2.1, C.2.2.1, C.2.2.2.1, C.2.2.2.2.1⟩ (hM H.size) cw ⟨cP.blind, va_recv C.2.2.2.2.2.1 hPc hc he, fun U hU hW => ⟨rfl, by rw [hU], by rw [hU]; exact hPc, va_K.moved hW.alike hKc, hDc.weaken (fun _ _ _ _ => trivial)⟩⟩ rfl hn hl.1 rfl (lv_room hro) dg hf) hS (fun q _ h => hFc q h) hFc (fun u t H1 locs1 ht hvm hw hB hz1 hk1 hS1 => ?_)
  obtain ⟨hP1, hK1, hD1⟩ := hB
  rw [ht] at hP1
  obtain ⟨hP2, hD2⟩ := frame_back (H0 := s.heap) (locs := locs) hP hD hFc hk1 hP1 hD1
  exact k H1 locs1 ls hP2 hD2 hS1 hl
end JX
/-- the sign -/
def sgn (a : Int) : Int := if 0 < a then 1 else if a < 0 then -1 else 0
set_option maxHeartbeats 4000000 in
set_option maxRecDepth 100000 in
theorem kJ6_signum_0f7a4 (l : Launch) (D : va_G) (c1 c2 c3 : ClassId) (a : Int) (h0 : -2 ≤ a) (h1 : a ≤ 2) : cI l yJ6_signum_0f7a4 wsJ6_signum_0f7a4 ({ frames := 0, cells := 0, slots := 0, locals := 0 }) D (tyS c1 c2 c3) [.int (zI a)] [] [] (zI (sgn a)) 0 0 := by
  refine cI.of (cc := cJ6_signum_0f7a4) (maxL := 1) (ret := .int) (by decide) rfl (lv := [(0, .int (zI a))]) [0] rfl (Nat.le_of_ble_eq_true rfl) ?_
  intro p e s m args below meth c A C hr
  have C : GC p s m args meth c cJ6_signum_0f7a4 1 RJ6 wsJ6_signum_0f7a4 D (tyS c1 c2 c3) A := C
  refine j_iload_n (pc := 0) C dJ6_signum_0f7a4_0 0 rfl ?_
  refine j_bipush (pc := 1) C dJ6_signum_0f7a4_1 (by decide +kernel) ?_
  refine j_ishr (pc := 3) C rfl dJ6_signum_0f7a4_3 ?_
  refine j_iload_n (pc := 4) C dJ6_signum_0f7a4_4 0 rfl ?_
  refine j_ineg (pc := 5) C dJ6_signum_0f7a4_5 ?_
  refine j_bipush (pc := 6) C dJ6_signum_0f7a4_6 (by decide +kernel) ?_
  refine j_iushr (pc := 8) C rfl dJ6_signum_0f7a4_8 ?_
  refine j_ior (pc := 9) C rfl dJ6_signum_0f7a4_9 ?_
  refine j_iret (pc := 10) C hr dJ6_signum_0f7a4_10 ?_ rfl (by decide) (by decide)
  have h2 : a = -2 ∨ a = -1 ∨ a = 0 ∨ a = 1 ∨ a = 2 := by omega
  rcases h2 with rfl | rfl | rfl | rfl | rfl <;> decide +kernel
