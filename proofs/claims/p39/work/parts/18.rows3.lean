section JX
variable {p : Program} {l : Launch} {e : Env} {R : Room} {s : State} {m : MethodId} {args : Array Value} {below : List Frame} {meth : Method} {c : Code} {cc : ByteArray} {nL : Nat} {own : String} {Ts : List Cond} {D : va_G} {tys : List (ClassId × FieldType)} {A : Nat → Prop} {cells slots : Nat} {Q : State → Prop} {ws : va_W} {lv : List (Nat × Value)} {pc : Nat} {st : List Value}
theorem j_ldc (C : GC p s m args meth c cc nL own Ts D tys A) {i : Nat} {v : Int32} {z : Int} (hc : (Jvm.Cond.constant own i v).before args s = true) (hv : v = zI z) (dg : decode cc pc = .ok (.ldc i, 2))
    (k : J p l e R s m args below meth c nL D A cells slots Q ws lv (pc + 2) (.int (zI z) :: st)) : J p l e R s m args below meth c nL D A cells slots Q ws lv pc st := by
  subst hv
  exact fun H locs ls hP hD hS hl => lv_ldc C.1 C.2.1 C.2.2.2.1 hc dg (k H locs ls hP hD hS hl)
theorem j_ishr (C : GC p s m args meth c cc nL own Ts D tys A) {x y v : Int32} (hv : x >>> (y &&& 31) = v) (dg : decode cc pc = .ok (.ishr, 1))
    (k : J p l e R s m args below meth c nL D A cells slots Q ws lv (pc + 1) (.int v :: st)) : J p l e R s m args below meth c nL D A cells slots Q ws lv pc (.int y :: .int x :: st) := by
  subst hv
  exact fun H locs ls hP hD hS hl => lv_ishr C.1 C.2.1 dg (k H locs ls hP hD hS hl)
theorem j_iushr (C : GC p s m args meth c cc nL own Ts D tys A) {x y v : Int32} (hv : (x.toUInt32 >>> (y.toUInt32 &&& Int32.toUInt32 31)).toInt32 = v) (dg : decode cc pc = .ok (.iushr, 1))
    (k : J p l e R s m args below meth c nL D A cells slots Q ws lv (pc + 1) (.int v :: st)) : J p l e R s m args below meth c nL D A cells slots Q ws lv pc (.int y :: .int x :: st) :=
  fun H locs ls hP hD hS hl => lv_iushr C.1 C.2.1 dg hv (k H locs ls hP hD hS hl)
theorem j_ior (C : GC p s m args meth c cc nL own Ts D tys A) {x y v : Int32} (hv : x ||| y = v) (dg : decode cc pc = .ok (.ior, 1))
    (k : J p l e R s m args below meth c nL D A cells slots Q ws lv (pc + 1) (.int v :: st)) : J p l e R s m args below meth c nL D A cells slots Q ws lv pc (.int y :: .int x :: st) := by
  subst hv
  exact fun H locs ls hP hD hS hl => lv_ior C.1 C.2.1 dg (k H locs ls hP hD hS hl)
theorem fits_int (x : Int32) : fits .int (.int x) = true := rfl
/-- new int[n] -/
theorem j_newa (C : GC p s m args meth c cc nL own Ts D tys A) (harr : (Cond.arrayClass .int).before args s = true) {z : Int} {n : Nat} (hz : z = n) (hn : n < 1000000) (hc : cells + 1 ≤ R.cells) (hs : slots + n ≤ R.slots) (dg : decode cc pc = .ok (.newarray .int, 2))
    (k : ∀ (q : Nat) (cA : ClassId), GC p s m args meth c cc nL own Ts D (tys ++ [(cA, .int)]) A → J p l e R s m args below meth c nL D A (cells + 1) (slots + n) Q (ws ++ [(q, .inl (cA, n, .inl (zA (fun _ => 0))))]) lv (pc + 2) (.ref q :: st)) : J p l e R s m args below meth c nL D A cells slots Q ws lv pc (.int (zI z) :: st) := by
  subst hz
  intro H locs ls hP hD hS hl
  rw [zI_nI (by omega)]
  refine va_newa (atype := .int) (ty := .int) (a0 := (n, .inl (fun _ => 0))) C.1 C.2.1 harr rfl C.2.2.2.2.2.1 hP hD hS C.2.2.2.2.2.2.1 (fun _ => rfl) (nI_pos (by omega)) (nI_clamp (by omega)) (by show n * 4 ≤ _; omega) hc hs dg (fun q cA H1 hK1 hP1 hD1 hS1 => ?_)
  have hz : (fun _ : Nat => (0 : Int32)) = zA (fun _ => 0) := funext fun _ => zI_0.symm
  rw [hz] at hP1 hD1
  exact k q cA ⟨C.1, C.2.1, C.2.2.1, C.2.2.2.1, C.2.2.2.2.1, hK1, C.2.2.2.2.2.2⟩ H1 locs ls hP1 hD1 hS1 hl
theorem j_alen (C : GC p s m args meth c cc nL own Ts D tys A) (q0 t0 : Nat) {a : Nat} {cA : ClassId} {x : vp_A} (ha : ws[q0]? = some (a, .inl (cA, x))) {ty : FieldType} (ht : tys[t0]? = some (cA, ty)) {z : Int} (hv : Int32.ofNat x.1 = zI z) (dg : decode cc pc = .ok (.arraylength, 1))
    (k : J p l e R s m args below meth c nL D A cells slots Q ws lv (pc + 1) (.int (zI z) :: st)) : J p l e R s m args below meth c nL D A cells slots Q ws lv pc (.ref a :: st) :=
  fun H locs ls hP hD hS hl => va_alen C.1 C.2.1 C.2.2.2.2.2.1 hP q0 t0 ha ht hv dg (k H locs ls hP hD hS hl)
/-- cells that nobody needs any more -/
theorem J.drop {a b : va_W} (k : J p l e R s m args below meth c nL D A cells slots Q a lv pc st) : J p l e R s m args below meth c nL D A cells slots Q (a ++ b) lv pc st := by
  intro H locs ls hP hD hS hl
  refine k H locs ls (fun i q hi => ?_) ⟨fun i j x y hi hj hxy => ?_, fun i q hi => ?_⟩ hS hl
  · have hl := (List.getElem?_eq_some_iff.mp hi).1
    exact hP i q (by rw [List.getElem?_append_left hl]; exact hi)
  · have h1 := (List.getElem?_eq_some_iff.mp hi).1
    have h2 := (List.getElem?_eq_some_iff.mp hj).1
    exact hD.1 i j x y (by rw [List.getElem?_append_left h1]; exact hi) (by rw [List.getElem?_append_left h2]; exact hj) hxy
  · have hl := (List.getElem?_eq_some_iff.mp hi).1
    exact hD.2 i q (by rw [List.getElem?_append_left hl]; exact hi)
theorem J.swap {a b : va_W} (k : J p l e R s m args below meth c nL D A cells slots Q (b ++ a) lv pc st) : J p l e R s m args below meth c nL D A cells slots Q (a ++ b) lv pc st := by
  intro H locs ls hP hD hS hl
  exact k H locs ls (va_P.swap (a := []) (b := a) (c := b) hP) (va_D.swap (a := []) (b := a) (c := b) hD) hS hl
/-- a part of the world: what the callee leaves, and the rest as it was -/
theorem frame_back {A : Nat → Prop} {a b a1 : va_W} {H0 H H1 : Heap} {locs : List Loc} (hP : va_P D vwCl (a ++ b) H) (hD : va_D A (a ++ b)) (hF : ∀ q, va_A a H.size q → A q) (hk : ∀ q : Nat, q < H.size → ¬ va_A a H.size q → H1[q]? = H[q]?) (hP1 : va_P D vwCl a1 H1) (hD1 : va_D (va_A a H.size) a1) : va_P D vwCl (a1 ++ b) H1 ∧ va_D A (a1 ++ b) := by
  have at' : ∀ (i : Nat) (q : Nat × va_E), b[i]? = some q → (a ++ b)[a.length + i]? = some q := fun i q hi => by
    rw [List.getElem?_append_right (by omega), show a.length + i - a.length = i by omega]; exact hi
  have apart : ∀ (i : Nat) (q : Nat × va_E), b[i]? = some q → q.1 < H.size ∧ ¬ va_A a H.size q.1 := by
    intro i q hi
    have hl := (hP _ q (at' i q hi)).lt
    refine ⟨hl, fun h => ?_⟩
    rcases h with ⟨k2, e2, h⟩ | h
    · have hk2 := (List.getElem?_eq_some_iff.mp h).1
      have := hD.1 (a.length + i) k2 q (q.1, e2) (at' i q hi) (by rw [List.getElem?_append_left hk2]; exact h) rfl
      omega
    · omega
  refine ⟨hP1.app (fun i q hi => ?_), va_D.app (hD1.weaken (fun _ q _ h => hF q.1 h)) ⟨fun i j x y hi hj hxy => ?_, fun i q hi => hD.2 _ q (at' i q hi)⟩ (fun i j x y hx hy hxy => ?_)⟩
  · obtain ⟨g1, g2⟩ := apart i q hi
    exact (hP _ q (at' i q hi)).kept (hk q.1 g1 g2)
  · have := hD.1 _ _ x y (at' i x hi) (at' j y hj) hxy
    omega
  · exact (apart j y hy).2 (by rw [← hxy]; exact hD1.2 i x hx)
theorem j_callFI (C : GC p s m args meth c cc nL own Ts D tys A) {y : MethodName} {wy : List Cond} {rm' : Room} {bytes : ByteArray} {maxL n index mc ms h : Nat} {ret : Option FieldType} {RX : String} {As rest : List Value} {w0 w1 wr : va_W} {tys' : List (ClassId × FieldType)} {r0 : Int32} (hM : cI l y wy rm' D tys' (.ref h :: As) w0 w1 r0 mc ms) (ks : List Nat) (hks : ks.filterMap (fun i => tys[i]?) = tys') (cw : CallW R s args own RX index y bytes maxL ret wy rm' mc ms n)
    (q0 : Nat) {ci : Nat} {fs : List Value} {q : vw_C} (hc : vwCl[ci]? = some q) (he : w0[q0]? = some (h, .inr (ci, fs))) (hq : q.1 = RX) (dg : decode cc pc = .ok (.invokevirtual index, 3)) (hn : As.length = n) (hst : st = As.reverse ++ .ref h :: rest) (hro : (rest.map fun v => v.category).sum ≤ 8) (hf : cells + mc ≤ R.cells ∧ slots + ms ≤ R.slots)
    (k : J p l e R s m args below meth c nL D A (cells + mc) (slots + ms) Q (w1 ++ wr) lv (pc + 3) (.int r0 :: rest)) : J p l e R s m args below meth c nL D A cells slots Q (w0 ++ wr) lv pc st := by
  subst hst; subst hq
  intro H locs ls hP hD hS hl
  have hlen : ∀ (i : Nat) (x : Nat × va_E), w0[i]? = some x → (w0 ++ wr)[i]? = some x := fun i x hi => by rw [List.getElem?_append_left (List.getElem?_eq_some_iff.mp hi).1]; exact hi
  have hPc : va_P D vwCl w0 H := fun i x hi => hP i x (hlen i x hi)
  have hDc : va_D A w0 := ⟨fun i j x y hi hj hxy => hD.1 i j x y (hlen i x hi) (hlen j y hj) hxy, fun i x hi => hD.2 i x (hlen i x hi)⟩
  have hFc := free_all hDc hS C.2.2.2.2.2.2.1
  have hKc : va_K D vwCl tys' s := C.2.2.2.2.2.1.sub ks hks
  refine va_calli (va_runV (As := As) (rest := rest) ⟨C.1, C.2.1, C.2.2.1, C.2.2.2.1, C.2.2.2.2.1⟩ (hM H.size) cw ⟨cP.blind, va_recv C.2.2.2.2.2.1 hPc hc he, fun U hU hW => ⟨rfl, by rw [hU], by rw [hU]; exact hPc, va_K.moved hW.alike hKc, hDc.weaken (fun _ _ _ _ => trivial)⟩⟩ rfl hn hl.1 rfl (lv_room hro) dg hf) hS (fun q _ h => hFc q h) hFc (fun r u t H1 locs1 ht hvm hw hB hz1 hk1 hS1 => ?_)
  obtain ⟨hP1, hK1, hD1⟩ := hB
  rw [ht] at hP1
  have hw : r = r0 := hw
  subst hw
  obtain ⟨hP2, hD2⟩ := frame_back (H0 := s.heap) (locs := locs) hP hD hFc hk1 hP1 hD1
  exact k H1 locs1 ls hP2 hD2 hS1 hl
theorem j_callFL (C : GC p s m args meth c cc nL own Ts D tys A) {y : MethodName} {wy : List Cond} {rm' : Room} {bytes : ByteArray} {maxL n index mc ms h : Nat} {ret : Option FieldType} {RX : String} {As rest : List Value} {w0 w1 wr : va_W} {tys' : List (ClassId × FieldType)} {r0 : Int64} (hM : cL l y wy rm' D tys' (.ref h :: As) w0 w1 r0 mc ms) (ks : List Nat) (hks : ks.filterMap (fun i => tys[i]?) = tys') (cw : CallW R s args own RX index y bytes maxL ret wy rm' mc ms n)
    (q0 : Nat) {ci : Nat} {fs : List Value} {q : vw_C} (hc : vwCl[ci]? = some q) (he : w0[q0]? = some (h, .inr (ci, fs))) (hq : q.1 = RX) (dg : decode cc pc = .ok (.invokevirtual index, 3)) (hn : As.length = n) (hst : st = As.reverse ++ .ref h :: rest) (hro : (rest.map fun v => v.category).sum ≤ 8) (hf : cells + mc ≤ R.cells ∧ slots + ms ≤ R.slots)
    (k : J p l e R s m args below meth c nL D A (cells + mc) (slots + ms) Q (w1 ++ wr) lv (pc + 3) (.long r0 :: rest)) : J p l e R s m args below meth c nL D A cells slots Q (w0 ++ wr) lv pc st := by
  subst hst; subst hq
  intro H locs ls hP hD hS hl
  have hlen : ∀ (i : Nat) (x : Nat × va_E), w0[i]? = some x → (w0 ++ wr)[i]? = some x := fun i x hi => by rw [List.getElem?_append_left (List.getElem?_eq_some_iff.mp hi).1]; exact hi
  have hPc : va_P D vwCl w0 H := fun i x hi => hP i x (hlen i x hi)
  have hDc : va_D A w0 := ⟨fun i j x y hi hj hxy => hD.1 i j x y (hlen i x hi) (hlen j y hj) hxy, fun i x hi => hD.2 i x (hlen i x hi)⟩
  have hFc := free_all hDc hS C.2.2.2.2.2.2.1
  have hKc : va_K D vwCl tys' s := C.2.2.2.2.2.1.sub ks hks
  refine va_calll (va_runV (As := As) (rest := rest) ⟨C.1, C.2.1, C.2.2.1, C.2.2.2.1, C.2.2.2.2.1⟩ (hM H.size) cw ⟨cP.blind, va_recv C.2.2.2.2.2.1 hPc hc he, fun U hU hW => ⟨rfl, by rw [hU], by rw [hU]; exact hPc, va_K.moved hW.alike hKc, hDc.weaken (fun _ _ _ _ => trivial)⟩⟩ rfl hn hl.1 rfl (lv_room hro) dg hf) hS (fun q _ h => hFc q h) hFc (fun r u t H1 locs1 ht hvm hw hB hz1 hk1 hS1 => ?_)
  obtain ⟨hP1, hK1, hD1⟩ := hB
  rw [ht] at hP1
  have hw : r = r0 := hw
  subst hw
  obtain ⟨hP2, hD2⟩ := frame_back (H0 := s.heap) (locs := locs) hP hD hFc hk1 hP1 hD1
  exact k H1 locs1 ls hP2 hD2 hS1 hl
theorem j_callFD (C : GC p s m args meth c cc nL own Ts D tys A) {y : MethodName} {wy : List Cond} {rm' : Room} {bytes : ByteArray} {maxL n index mc ms h : Nat} {ret : Option FieldType} {RX : String} {As rest : List Value} {w0 w1 wr : va_W} {tys' : List (ClassId × FieldType)} {r0 : UInt64} (hM : cD l y wy rm' D tys' (.ref h :: As) w0 w1 r0 mc ms) (ks : List Nat) (hks : ks.filterMap (fun i => tys[i]?) = tys') (cw : CallW R s args own RX index y bytes maxL ret wy rm' mc ms n)
    (q0 : Nat) {ci : Nat} {fs : List Value} {q : vw_C} (hc : vwCl[ci]? = some q) (he : w0[q0]? = some (h, .inr (ci, fs))) (hq : q.1 = RX) (dg : decode cc pc = .ok (.invokevirtual index, 3)) (hn : As.length = n) (hst : st = As.reverse ++ .ref h :: rest) (hro : (rest.map fun v => v.category).sum ≤ 8) (hf : cells + mc ≤ R.cells ∧ slots + ms ≤ R.slots)
    (k : J p l e R s m args below meth c nL D A (cells + mc) (slots + ms) Q (w1 ++ wr) lv (pc + 3) (.double r0 :: rest)) : J p l e R s m args below meth c nL D A cells slots Q (w0 ++ wr) lv pc st := by
  subst hst; subst hq
  intro H locs ls hP hD hS hl
  have hlen : ∀ (i : Nat) (x : Nat × va_E), w0[i]? = some x → (w0 ++ wr)[i]? = some x := fun i x hi => by rw [List.getElem?_append_left (List.getElem?_eq_some_iff.mp hi).1]; exact hi
  have hPc : va_P D vwCl w0 H := fun i x hi => hP i x (hlen i x hi)
  have hDc : va_D A w0 := ⟨fun i j x y hi hj hxy => hD.1 i j x y (hlen i x hi) (hlen j y hj) hxy, fun i x hi => hD.2 i x (hlen i x hi)⟩
  have hFc := free_all hDc hS C.2.2.2.2.2.2.1
  have hKc : va_K D vwCl tys' s := C.2.2.2.2.2.1.sub ks hks
  refine va_calld (va_runV (As := As) (rest := rest) ⟨C.1, C.2.1, C.2.2.1, C.2.2.2.1, C.2.2.2.2.1⟩ (hM H.size) cw ⟨cP.blind, va_recv C.2.2.2.2.2.1 hPc hc he, fun U hU hW => ⟨rfl, by rw [hU], by rw [hU]; exact hPc, va_K.moved hW.alike hKc, hDc.weaken (fun _ _ _ _ => trivial)⟩⟩ rfl hn hl.1 rfl (lv_room hro) dg hf) hS (fun q _ h => hFc q h) hFc (fun r u t H1 locs1 ht hvm hw hB hz1 hk1 hS1 => ?_)
  obtain ⟨hP1, hK1, hD1⟩ := hB
  rw [ht] at hP1
  have hw : r = r0 := hw
  subst hw
  obtain ⟨hP2, hD2⟩ := frame_back (H0 := s.heap) (locs := locs) hP hD hFc hk1 hP1 hD1
  exact k H1 locs1 ls hP2 hD2 hS1 hl
theorem j_callFV (C : GC p s m args meth c cc nL own Ts D tys A) {y : MethodName} {wy : List Cond} {rm' : Room} {bytes : ByteArray} {maxL n index mc ms h : Nat} {ret : Option FieldType} {RX : String} {As rest : List Value} {w0 w1 wr : va_W} {tys' : List (ClassId × FieldType)}  (hM : cV l y wy rm' D tys' (.ref h :: As) w0 w1  mc ms) (ks : List Nat) (hks : ks.filterMap (fun i => tys[i]?) = tys') (cw : CallW R s args own RX index y bytes maxL ret wy rm' mc ms n)
    (q0 : Nat) {ci : Nat} {fs : List Value} {q : vw_C} (hc : vwCl[ci]? = some q) (he : w0[q0]? = some (h, .inr (ci, fs))) (hq : q.1 = RX) (dg : decode cc pc = .ok (.invokevirtual index, 3)) (hn : As.length = n) (hst : st = As.reverse ++ .ref h :: rest) (hro : (rest.map fun v => v.category).sum ≤ 8) (hf : cells + mc ≤ R.cells ∧ slots + ms ≤ R.slots)
    (k : J p l e R s m args below meth c nL D A (cells + mc) (slots + ms) Q (w1 ++ wr) lv (pc + 3) rest) : J p l e R s m args below meth c nL D A cells slots Q (w0 ++ wr) lv pc st := by
  subst hst; subst hq
  intro H locs ls hP hD hS hl
  have hlen : ∀ (i : Nat) (x : Nat × va_E), w0[i]? = some x → (w0 ++ wr)[i]? = some x := fun i x hi => by rw [List.getElem?_append_left (List.getElem?_eq_some_iff.mp hi).1]; exact hi
  have hPc : va_P D vwCl w0 H := fun i x hi => hP i x (hlen i x hi)
  have hDc : va_D A w0 := ⟨fun i j x y hi hj hxy => hD.1 i j x y (hlen i x hi) (hlen j y hj) hxy, fun i x hi => hD.2 i x (hlen i x hi)⟩
  have hFc := free_all hDc hS C.2.2.2.2.2.2.1
  have hKc : va_K D vwCl tys' s := C.2.2.2.2.2.1.sub ks hks
  refine va_callv (va_runV (As := As) (rest := rest) ⟨C.1, C.2.1, C.2.2.1, C.2.2.2.1, C.2.2.2.2.1⟩ (hM H.size) cw ⟨cP.blind, va_recv C.2.2.2.2.2.1 hPc hc he, fun U hU hW => ⟨rfl, by rw [hU], by rw [hU]; exact hPc, va_K.moved hW.alike hKc, hDc.weaken (fun _ _ _ _ => trivial)⟩⟩ rfl hn hl.1 rfl (lv_room hro) dg hf) hS (fun q _ h => hFc q h) hFc (fun u t H1 locs1 ht hvm hw hB hz1 hk1 hS1 => ?_)
  obtain ⟨hP1, hK1, hD1⟩ := hB
  rw [ht] at hP1
  obtain ⟨hP2, hD2⟩ := frame_back (H0 := s.heap) (locs := locs) hP hD hFc hk1 hP1 hD1
  exact k H1 locs1 ls hP2 hD2 hS1 hl
end JX
