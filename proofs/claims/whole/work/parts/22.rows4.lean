/-! ===== exceptions: what a throw needs of the start ===== -/
def xW : List Cond := [.castable "java/lang/IllegalArgumentException" "java/lang/IllegalArgumentException", .castable "java/lang/IllegalStateException" "java/lang/IllegalStateException", .castable "java/lang/IndexOutOfBoundsException" "java/lang/IndexOutOfBoundsException", .declares (Bundle.initS "java/lang/RuntimeException"), .declares (Bundle.initS "java/lang/Exception"), .declares (Bundle.initS Bundle.tN)]
def xS : List (Nat × String) := [(111, "there are as many samples as can be"), (136, "no such kind"), (184, "days are 1 to 50"), (186, "no such layer"), (188, "no such layers"), (190, "no such sample"), (52, "no such kind or dampness"), (62, "the silo is full"), (69, "there are no layers"), (84, "there are fewer than two layers"), (92, "no such limit")]
def xN : List (String × String) := [("java/lang/IllegalArgumentException", "java/lang/IllegalStateException"), ("java/lang/IllegalArgumentException", "java/lang/IndexOutOfBoundsException"), ("java/lang/IllegalStateException", "java/lang/IllegalArgumentException"), ("java/lang/IllegalStateException", "java/lang/IndexOutOfBoundsException"), ("java/lang/IndexOutOfBoundsException", "java/lang/IllegalArgumentException"), ("java/lang/IndexOutOfBoundsException", "java/lang/IllegalStateException")]
def xF (A : Nat → Prop) (U : State) (H : Heap) : Prop :=
  (∀ w ∈ xW, va_Nw w U) ∧ vx_Zq Bundle.tN "UNASSIGNED_STACK" Bundle.steD A U H ∧ vx_Zq Bundle.tN "SUPPRESSED_SENTINEL" Bundle.listD A U H ∧ (∀ q ∈ xS, ∃ a, vk_R RX0 q.1 q.2 a U) ∧ ∀ q ∈ xN, va_Nc q.1 q.2 U
theorem xW_warm {w : Cond} (hw : w ∈ xW) {s U : State} (hW : s.WarmedH U.vm) (h : va_Nw w s) : va_Nw w U := by
  simp only [xW, List.mem_cons, List.not_mem_nil, or_false] at hw
  rcases hw with rfl | rfl | rfl | rfl | rfl | rfl
  · exact va_tabs rfl (rfl : (s.setVm U.vm).vm = U.vm) (by rw [Cond.castable_setVm hW.alike]; exact h)
  · exact va_tabs rfl (rfl : (s.setVm U.vm).vm = U.vm) (by rw [Cond.castable_setVm hW.alike]; exact h)
  · exact va_tabs rfl (rfl : (s.setVm U.vm).vm = U.vm) (by rw [Cond.castable_setVm hW.alike]; exact h)
  · exact va_Nw.warmD hW h
  · exact va_Nw.warmD hW h
  · exact va_Nw.warmD hW h
theorem xF.moved {A : Nat → Prop} {H : Heap} {u U : State} (hW : u.WarmedH U.vm) (h : xF A u H) : xF A U H :=
  ⟨fun w hw => xW_warm hw hW (h.1 w hw), h.2.1.moved hW.alike, h.2.2.1.moved hW.alike, fun q hq => by
    obtain ⟨a, ha⟩ := h.2.2.2.1 q hq
    exact ⟨a, vk_R.warm hW ha⟩, fun q hq => (h.2.2.2.2 q hq).moved hW.alike⟩
theorem xF.kept {A : Nat → Prop} {U : State} {H H1 : Heap} (h : xF A U H) (hq : ∀ a : Nat, a < H.size → ¬ A a → H1[a]? = H[a]?) : xF A U H1 := ⟨h.1, h.2.1.kept hq, h.2.2.1.kept hq, h.2.2.2⟩
theorem xF.narrow {A B : Nat → Prop} {U : State} {H : Heap} (h : xF A U H) (hAB : ∀ q, B q → A q) : xF B U H := ⟨h.1, h.2.1.narrow hAB, h.2.2.1.narrow hAB, h.2.2.2⟩
def pX (D : va_G) (tys : List (ClassId × FieldType)) (av : List Value) (w : va_W) (sz : Nat) : Array Value → State → Prop := va_Pc av (fun U => U.heap.size = sz ∧ va_P D vwCl w U.heap ∧ va_K D vwCl tys U ∧ va_D (fun _ => True) w ∧ xF (va_A w sz) U U.heap)
theorem pX.blind {D : va_G} {tys : List (ClassId × FieldType)} {av : List Value} {w : va_W} {sz : Nat} : FrameBlind (pX D tys av w sz) := fun a U g mk q => by
  obtain ⟨q0, q1, qP, qK, qD, qx⟩ := q
  exact ⟨q0, q1, qP, va_K.moved (u := U) (U := U.calling g mk a) (Vm.Alike.refl U.vm) qK, qD, xF.moved (u := U) (U := U.calling g mk a) (State.WarmedH.refl U) qx⟩
def qX (D : va_G) (tys : List (ClassId × FieldType)) (A : Nat → Prop) (w : va_W) (E : String) : String → State → State → Prop := vx_X (fun _ : Unit => True) (fun E' _ t => E' = E ∧ va_P D vwCl w t.heap ∧ va_K D vwCl tys t ∧ va_D A w) A
def qnV (A : Nat → Prop) : Array Value → State → Outcome → State → Prop := va_Qv (fun _ : Unit => False) (fun _ _ => True) A
def qnI (A : Nat → Prop) : Array Value → State → Outcome → State → Prop := va_Qi (fun _ (_ : Unit) => False) (fun _ _ => True) A
def cXV (l : Launch) (y : MethodName) (ws : List Cond) (rm : Room) (D : va_G) (tys : List (ClassId × FieldType)) (av : List Value) (w : va_W) (E : String) (mc ms : Nat) : Prop := l.stackTraces = false → ∀ sz : Nat, vx_Met l y ws rm (pX D tys av w sz) (qnV (va_A w sz)) (qX D tys (va_A w sz) w E) mc ms (va_A w sz)
theorem cXV.of {l : Launch} {y : MethodName} {ws ws' : List Cond} {rm : Room} {cc : ByteArray} {maxL : Nat} {ret : Option FieldType} {D : va_G} {tys : List (ClassId × FieldType)} {av : List Value} {w : va_W} {E : String} {mc ms : Nat} (hy : plainName y.cls = true) (hw : ws = Cond.code y cc maxL ret :: ws') {lv : List (Nat × Value)} (ks : List Nat) (hlv : lv_pick (lv_args 0 av) ks = lv) (hav : (lg_sl av).length ≤ maxL)
    (body : l.stackTraces = false → ∀ (p : Program) (e : Env) (s : State) (m : MethodId) (args : Array Value) (below : List Frame) (meth : Method) (c : Code) (A : Nat → Prop), GC p s m args meth c cc maxL y.cls ws D tys A → xF A s s.heap → (∀ x ∈ c.exceptionTable.toList, False) → J p l e rm s m args below meth c maxL D A 0 0 (vx_MQ below (qnV A) (qX D tys A w E) args s mc ms A) w lv 0 []) : cXV l y ws rm D tys av w E mc ms := by
  intro htr sz
  refine vx_ofW (cc := cc) (maxL := maxL) (ret := ret) hy hw ?_
  intro p e s m args below meth c s₁ B hml hno hv
  obtain ⟨rfl, hsz, hP, hK, hD0, hx⟩ := hv
  subst hsz
  have hD := hD0.self (sz := s.heap.size)
  have hl := lv_entry av (n := maxL) hav
  rw [lg_entry_eq]
  exact body htr p e s m av.toArray below meth c (va_A w s.heap.size) ⟨B.exec, B.bytes, hml, findClass_of_methodNamed B.named, atoms_spec (ws := ws) B.pre, hK, fun q h => Or.inr h, B.notSynchronized⟩ hx hno s.heap [] _ hP hD va_S.rf (lv_sub hl ks hlv)
def cXI (l : Launch) (y : MethodName) (ws : List Cond) (rm : Room) (D : va_G) (tys : List (ClassId × FieldType)) (av : List Value) (w : va_W) (E : String) (mc ms : Nat) : Prop := l.stackTraces = false → ∀ sz : Nat, vx_Met l y ws rm (pX D tys av w sz) (qnI (va_A w sz)) (qX D tys (va_A w sz) w E) mc ms (va_A w sz)
theorem cXI.of {l : Launch} {y : MethodName} {ws ws' : List Cond} {rm : Room} {cc : ByteArray} {maxL : Nat} {ret : Option FieldType} {D : va_G} {tys : List (ClassId × FieldType)} {av : List Value} {w : va_W} {E : String} {mc ms : Nat} (hy : plainName y.cls = true) (hw : ws = Cond.code y cc maxL ret :: ws') {lv : List (Nat × Value)} (ks : List Nat) (hlv : lv_pick (lv_args 0 av) ks = lv) (hav : (lg_sl av).length ≤ maxL)
    (body : l.stackTraces = false → ∀ (p : Program) (e : Env) (s : State) (m : MethodId) (args : Array Value) (below : List Frame) (meth : Method) (c : Code) (A : Nat → Prop), GC p s m args meth c cc maxL y.cls ws D tys A → xF A s s.heap → (∀ x ∈ c.exceptionTable.toList, False) → J p l e rm s m args below meth c maxL D A 0 0 (vx_MQ below (qnI A) (qX D tys A w E) args s mc ms A) w lv 0 []) : cXI l y ws rm D tys av w E mc ms := by
  intro htr sz
  refine vx_ofW (cc := cc) (maxL := maxL) (ret := ret) hy hw ?_
  intro p e s m args below meth c s₁ B hml hno hv
  obtain ⟨rfl, hsz, hP, hK, hD0, hx⟩ := hv
  subst hsz
  have hD := hD0.self (sz := s.heap.size)
  have hl := lv_entry av (n := maxL) hav
  rw [lg_entry_eq]
  exact body htr p e s m av.toArray below meth c (va_A w s.heap.size) ⟨B.exec, B.bytes, hml, findClass_of_methodNamed B.named, atoms_spec (ws := ws) B.pre, hK, fun q h => Or.inr h, B.notSynchronized⟩ hx hno s.heap [] _ hP hD va_S.rf (lv_sub hl ks hlv)
def cIX (l : Launch) (y : MethodName) (ws : List Cond) (rm : Room) (D : va_G) (tys : List (ClassId × FieldType)) (av : List Value) (w w1 : va_W) (r0 : Int32) (mc ms : Nat) : Prop := l.stackTraces = false → ∀ sz : Nat, Met l y ws rm (pX D tys av w sz) (qI D tys (va_A w sz) w1 r0) mc ms (va_A w sz)
theorem cIX.of {l : Launch} {y : MethodName} {ws ws' : List Cond} {rm : Room} {cc : ByteArray} {maxL : Nat} {ret : FieldType} {hh : List (Nat × Nat × Nat × Nat)} {D : va_G} {tys : List (ClassId × FieldType)} {av : List Value} {w w1 : va_W} {r0 : Int32} {mc ms : Nat} (hy : plainName y.cls = true) (hw : ws = Cond.codeWith y cc maxL (some ret) hh :: ws') {lv : List (Nat × Value)} (ks : List Nat) (hlv : lv_pick (lv_args 0 av) ks = lv) (hav : (lg_sl av).length ≤ maxL)
    (body : l.stackTraces = false → ∀ (p : Program) (e : Env) (s : State) (m : MethodId) (args : Array Value) (below : List Frame) (meth : Method) (c : Code) (A : Nat → Prop), GC p s m args meth c cc maxL y.cls ws D tys A → meth.sig.returnType = some ret → xF A s s.heap → c.exceptionTable.toList = tableOf hh → J p l e rm s m args below meth c maxL D A 0 0 (MQ below (qI D tys A w1 r0) args s mc ms A) w lv 0 []) : cIX l y ws rm D tys av w w1 r0 mc ms := by
  intro htr sz
  refine va_MetW (cc := cc) (maxL := maxL) (ret := some ret) (hh := hh) hy hw ?_
  intro p e s m args below meth c s₁ B hml hv
  obtain ⟨rfl, hsz, hP, hK, hD0, hx⟩ := hv
  subst hsz
  have hD := hD0.self (sz := s.heap.size)
  have hl := lv_entry av (n := maxL) hav
  have hT : c.exceptionTable.toList = tableOf hh := vx_table (x := y) B (atoms_spec (ws := ws) B.pre _ (by rw [hw]; exact List.mem_cons_self))
  rw [lg_entry_eq]
  exact body htr p e s m av.toArray below meth c (va_A w s.heap.size) ⟨B.exec, B.bytes, hml, findClass_of_methodNamed B.named, atoms_spec (ws := ws) B.pre, hK, fun q h => Or.inr h, B.notSynchronized⟩ B.returns hx hT s.heap [] _ hP hD va_S.rf (lv_sub hl ks hlv)
section JE
variable {p : Program} {l : Launch} {e : Env} {R : Room} {s : State} {m : MethodId} {args : Array Value} {below : List Frame} {meth : Method} {c : Code} {cc : ByteArray} {nL : Nat} {own : String} {Ts : List Cond} {D : va_G} {tys : List (ClassId × FieldType)} {A : Nat → Prop} {cells slots : Nat} {Q : State → Prop} {ws : va_W} {lv : List (Nat × Value)} {pc : Nat} {st : List Value}
/-- throw new E("text") -/
theorem j_throwS (C : GC p s m args meth c cc nL RX0 Ts D tys A) (htr : l.stackTraces = false) (hx : xF A s s.heap) (hno : ∀ x ∈ c.exceptionTable.toList, False) {cls text : String} {names : List String} {ik is ic mc ms : Nat} {Qc : Array Value → State → Outcome → State → Prop}
    (hcls : Bundle.fit cls = true) (hnames : ∀ n ∈ names, Bundle.fit n = true) (hk : (Cond.classLink RX0 ik cls).before args s = true) (hini : (Cond.initialized cls).before args s = true) (hstr : (is, text) ∈ xS)
    (hg1 : ∀ w ∈ (vx_atS RX0 ic cls names).filter goodWord, w ∈ Ts) (hg2 : ∀ w ∈ (vx_atS RX0 ic cls names).filter (fun w => !goodWord w), w ∈ xW) (hg3 : ∀ w ∈ xW, w.onTables = true)
    (hgood : ∀ w ∈ Cond.classLink RX0 ik cls :: Cond.initialized cls :: vx_atS RX0 ic cls names, vx_ot w = true)
    (d0 : decode cc pc = .ok (.new ik, 3)) (d3 : decode cc (pc + 3) = .ok (.dup, 1)) (d4 : decode cc (pc + 4) = .ok (.ldc is, 2)) (d6 : decode cc (pc + 6) = .ok (.invokespecial ic, 3)) (d9 : decode cc (pc + 9) = .ok (.athrow, 1))
    (hRf : names.length + 3 < R.frames) (hRl : (st.map fun v => v.category).sum + (13 * (names.length + 1) + 43) ≤ R.locals) (hRc : cells + 1 ≤ R.cells) (hRs : slots + 6 ≤ R.slots) (hc : cells + 1 ≤ mc) (hs : slots + 6 ≤ ms) :
    J p l e R s m args below meth c nL D A cells slots (vx_MQ below Qc (qX D tys A ws cls) args s mc ms A) ws lv pc st := by
  intro H locs ls hP hD hS hl
  obtain ⟨a, ha⟩ := hx.2.2.2.1 _ hstr
  have hlk : meth.locks = false := C.2.2.2.2.2.2.2
  refine vx_throwS C.1 C.2.1 htr (A := A) (names := names) C.2.2.2.1 hcls hnames hk hini ha (vx_hat (B := xW) (fun w hw => C.2.2.2.2.1 w (hg1 w hw)) hg2 (fun w hw => va_Nw.use (hg3 w hw) (hx.1 w hw))) hgood hx.2.1 hx.2.2.1 hS (hl.1.trans C.2.2.1.symm) d0 d3 d4 d6 d9 (fun x hx => (hno x hx).elim) hRf hRl hRc hRs hlk ?_ hS.2.2 hc hs
  intro t hvm hsz hk1
  exact ⟨(), trivial, ⟨rfl, hP.kept (fun k q hq => hk1 q.1 ((hP k q hq).lt)), va_K.moved hvm C.2.2.2.2.2.1, hD⟩, ⟨Nat.le_trans hS.1 hsz, fun q h1 h2 => (hk1 q (Nat.lt_of_lt_of_le h1 hS.1)).trans (hS.2.1 q h1 h2)⟩⟩
theorem sub_world {w0 wr : va_W} {H : Heap} (hP : va_P D vwCl (w0 ++ wr) H) (hD : va_D A (w0 ++ wr)) : va_P D vwCl w0 H ∧ va_D A w0 := by
  have hlen : ∀ (i : Nat) (x : Nat × va_E), w0[i]? = some x → (w0 ++ wr)[i]? = some x := fun i x hi => by rw [List.getElem?_append_left (List.getElem?_eq_some_iff.mp hi).1]; exact hi
  exact ⟨fun i x hi => hP i x (hlen i x hi), ⟨fun i j x y hi hj hxy => hD.1 i j x y (hlen i x hi) (hlen j y hj) hxy, fun i x hi => hD.2 i x (hlen i x hi)⟩⟩
theorem j_callXV_out (C : GC p s m args meth c cc nL own Ts D tys A) (htr : l.stackTraces = false) (hx : xF A s s.heap) {y : MethodName} {wy : List Cond} {rm' : Room} {bytes : ByteArray} {maxL n index mc ms : Nat} {h : Nat} {RX : String} {ret : Option FieldType} {As rest : List Value} {w0 wr : va_W} {E : String} (hws : ws = w0 ++ wr) (hM : cXV l y wy rm' D tys (.ref h :: As) w0 E mc ms) (cw : CallW R s args own RX index y bytes maxL ret wy rm' mc ms n)
    (q0 : Nat) {ci : Nat} {fs : List Value} {q : vw_C} (hc : vwCl[ci]? = some q) (he : w0[q0]? = some (h, .inr (ci, fs))) (hq : q.1 = RX) (dg : decode cc pc = .ok (.invokevirtual index, 3)) (hn : As.length = n) (hst : st = As.reverse ++ .ref h :: rest) (hro : (rest.map fun v => v.category).sum ≤ 8) (hf : cells + mc ≤ R.cells ∧ slots + ms ≤ R.slots) (hno : ∀ x ∈ c.exceptionTable.toList, False) {mc' ms' : Nat} {Qc : Array Value → State → Outcome → State → Prop} (hc' : cells + mc ≤ mc') (hs' : slots + ms ≤ ms') :
    J p l e R s m args below meth c nL D A cells slots (vx_MQ below Qc (qX D tys A ws E) args s mc' ms' A) ws lv pc st := by
  subst hst; subst hws
  subst hq
  intro H locs ls hP hD hS hl
  obtain ⟨hPc, hDc⟩ := sub_world hP hD
  have hFc := free_all hDc hS C.2.2.2.2.2.2.1
  refine vx_callv (vx_runV (As := As) (rest := rest) ⟨C.1, C.2.1, C.2.2.1, C.2.2.2.1, C.2.2.2.2.1⟩ (hM htr H.size) cw ⟨pX.blind, va_recv C.2.2.2.2.2.1 hPc hc he, fun U hU hW => ⟨rfl, by rw [hU], by rw [hU]; exact hPc, va_K.moved hW.alike C.2.2.2.2.2.1, hDc.weaken (fun _ _ _ _ => trivial), by rw [hU]; exact xF.moved hW ((hx.kept hS.2.1).narrow hFc)⟩⟩ rfl hn hl.1 rfl (lv_room hro) dg hf) hS (fun q _ h => hFc q h) hFc (fun q _ h => hFc q h) (fun E' ce q9 u t H1 locs1 ht hvm _ hB hz1 hk1 hS1 hce hcv hcl => ?_) (fun u t H1 locs1 ht hvm hw hB hz1 hk1 hS1 => hw.elim)
  obtain ⟨rfl, hP1, hK1, hD1⟩ := hB
  rw [ht] at hP1
  obtain ⟨hP2, hD2⟩ := frame_back (H0 := s.heap) (locs := locs) hP hD hFc hk1 hP1 hD1
  have hlk : meth.locks = false := C.2.2.2.2.2.2.2
  exact vx_out (fun x hx => (hno x hx).elim) hlk hce hcv hcl (fun t2 ht2 hvm2 => ⟨(), trivial, ⟨rfl, by rw [ht2]; exact hP2, va_K.moved hvm2 C.2.2.2.2.2.1, hD2⟩, hS1.F ht2⟩) hS1.2.2 hc' hs'
theorem j_callXV_catch (C : GC p s m args meth c cc nL own Ts D tys A) (htr : l.stackTraces = false) (hx : xF A s s.heap) {y : MethodName} {wy : List Cond} {rm' : Room} {bytes : ByteArray} {maxL n index mc ms : Nat} {h : Nat} {RX : String} {ret : Option FieldType} {As rest : List Value} {w0 wr : va_W} {E : String} (hws : ws = w0 ++ wr) (hM : cXV l y wy rm' D tys (.ref h :: As) w0 E mc ms) (cw : CallW R s args own RX index y bytes maxL ret wy rm' mc ms n)
    (q0 : Nat) {ci : Nat} {fs : List Value} {q : vw_C} (hc : vwCl[ci]? = some q) (he : w0[q0]? = some (h, .inr (ci, fs))) (hq : q.1 = RX) (dg : decode cc pc = .ok (.invokevirtual index, 3)) (hn : As.length = n) (hst : st = As.reverse ++ .ref h :: rest) (hro : (rest.map fun v => v.category).sum ≤ 8) (hf : cells + mc ≤ R.cells ∧ slots + ms ≤ R.slots) (pre : List ExceptionTableEntry) (x : ExceptionTableEntry) (suf : List ExceptionTableEntry) (hsplit : c.exceptionTable.toList = pre ++ x :: suf) (hpass : ∀ z ∈ pre, covers z pc = false ∨ (z.catchType ≠ 0 ∧ ∃ nm : String, (Cond.classLink own z.catchType nm).before args s = true ∧ (E, nm) ∈ xN)) (hcov : covers x pc = true) (h0 : x.catchType ≠ 0) (hlink : (Cond.classLink own x.catchType E).before args s = true) (hcast : .castable E E ∈ xW)
    (k : ∀ q9 : Nat, J p l e R s m args below meth c nL D A (cells + mc) (slots + ms) Q ws lv x.handlerPc [.ref q9]) : J p l e R s m args below meth c nL D A cells slots Q ws lv pc st := by
  subst hst; subst hws
  subst hq
  intro H locs ls hP hD hS hl
  obtain ⟨hPc, hDc⟩ := sub_world hP hD
  have hFc := free_all hDc hS C.2.2.2.2.2.2.1
  refine vx_callv (vx_runV (As := As) (rest := rest) ⟨C.1, C.2.1, C.2.2.1, C.2.2.2.1, C.2.2.2.2.1⟩ (hM htr H.size) cw ⟨pX.blind, va_recv C.2.2.2.2.2.1 hPc hc he, fun U hU hW => ⟨rfl, by rw [hU], by rw [hU]; exact hPc, va_K.moved hW.alike C.2.2.2.2.2.1, hDc.weaken (fun _ _ _ _ => trivial), by rw [hU]; exact xF.moved hW ((hx.kept hS.2.1).narrow hFc)⟩⟩ rfl hn hl.1 rfl (lv_room hro) dg hf) hS (fun q _ h => hFc q h) hFc (fun q _ h => hFc q h) (fun E' ce q9 u t H1 locs1 ht hvm _ hB hz1 hk1 hS1 hce hcv hcl => ?_) (fun u t H1 locs1 ht hvm hw hB hz1 hk1 hS1 => hw.elim)
  obtain ⟨rfl, hP1, hK1, hD1⟩ := hB
  rw [ht] at hP1
  obtain ⟨hP2, hD2⟩ := frame_back (H0 := s.heap) (locs := locs) hP hD hFc hk1 hP1 hD1
  exact vx_catch C.2.2.2.1 pre x suf hsplit (fun z hz => (hpass z hz).imp id (fun h => ⟨h.1, h.2.imp fun nm h2 => ⟨h2.1, hx.2.2.2.2 _ h2.2⟩⟩)) hcov h0 hlink (va_Nw.use rfl (hx.1 _ hcast)) hce hcv hcl (k q9 H1 locs1 ls hP2 hD2 hS1 hl)
theorem j_callXSV_out (C : GC p s m args meth c cc nL own Ts D tys A) (htr : l.stackTraces = false) (hx : xF A s s.heap) {y : MethodName} {wy : List Cond} {rm' : Room} {bytes : ByteArray} {maxL n index mc ms : Nat} {ret : Option FieldType} {As rest : List Value} {w0 wr : va_W} {E : String} (hws : ws = w0 ++ wr) (hM : cXV l y wy rm' D tys As w0 E mc ms) (cw : CallB R s args own index y bytes maxL ret wy rm' mc ms n ∧ (Cond.static y).before args s = true)
    (dg : decode cc pc = .ok (.invokestatic index, 3)) (hn : As.length = n) (hst : st = As.reverse ++ rest) (hro : (rest.map fun v => v.category).sum ≤ 8) (hf : cells + mc ≤ R.cells ∧ slots + ms ≤ R.slots) (hno : ∀ x ∈ c.exceptionTable.toList, False) {mc' ms' : Nat} {Qc : Array Value → State → Outcome → State → Prop} (hc' : cells + mc ≤ mc') (hs' : slots + ms ≤ ms') :
    J p l e R s m args below meth c nL D A cells slots (vx_MQ below Qc (qX D tys A ws E) args s mc' ms' A) ws lv pc st := by
  subst hst; subst hws
  intro H locs ls hP hD hS hl
  obtain ⟨hPc, hDc⟩ := sub_world hP hD
  have hFc := free_all hDc hS C.2.2.2.2.2.2.1
  refine vx_callv (vx_runS (As := As) (rest := rest) ⟨C.1, C.2.1, C.2.2.1, C.2.2.2.1, C.2.2.2.2.1⟩ (hM htr H.size) cw ⟨pX.blind, fun U hU hW => ⟨rfl, by rw [hU], by rw [hU]; exact hPc, va_K.moved hW.alike C.2.2.2.2.2.1, hDc.weaken (fun _ _ _ _ => trivial), by rw [hU]; exact xF.moved hW ((hx.kept hS.2.1).narrow hFc)⟩⟩ rfl hn hl.1 rfl (lv_room hro) dg hf) hS (fun q _ h => hFc q h) hFc (fun q _ h => hFc q h) (fun E' ce q9 u t H1 locs1 ht hvm _ hB hz1 hk1 hS1 hce hcv hcl => ?_) (fun u t H1 locs1 ht hvm hw hB hz1 hk1 hS1 => hw.elim)
  obtain ⟨rfl, hP1, hK1, hD1⟩ := hB
  rw [ht] at hP1
  obtain ⟨hP2, hD2⟩ := frame_back (H0 := s.heap) (locs := locs) hP hD hFc hk1 hP1 hD1
  have hlk : meth.locks = false := C.2.2.2.2.2.2.2
  exact vx_out (fun x hx => (hno x hx).elim) hlk hce hcv hcl (fun t2 ht2 hvm2 => ⟨(), trivial, ⟨rfl, by rw [ht2]; exact hP2, va_K.moved hvm2 C.2.2.2.2.2.1, hD2⟩, hS1.F ht2⟩) hS1.2.2 hc' hs'
theorem j_callXI_out (C : GC p s m args meth c cc nL own Ts D tys A) (htr : l.stackTraces = false) (hx : xF A s s.heap) {y : MethodName} {wy : List Cond} {rm' : Room} {bytes : ByteArray} {maxL n index mc ms : Nat} {h : Nat} {RX : String} {ret : Option FieldType} {As rest : List Value} {w0 wr : va_W} {E : String} (hws : ws = w0 ++ wr) (hM : cXI l y wy rm' D tys (.ref h :: As) w0 E mc ms) (cw : CallW R s args own RX index y bytes maxL ret wy rm' mc ms n)
    (q0 : Nat) {ci : Nat} {fs : List Value} {q : vw_C} (hc : vwCl[ci]? = some q) (he : w0[q0]? = some (h, .inr (ci, fs))) (hq : q.1 = RX) (dg : decode cc pc = .ok (.invokevirtual index, 3)) (hn : As.length = n) (hst : st = As.reverse ++ .ref h :: rest) (hro : (rest.map fun v => v.category).sum ≤ 8) (hf : cells + mc ≤ R.cells ∧ slots + ms ≤ R.slots) (hno : ∀ x ∈ c.exceptionTable.toList, False) {mc' ms' : Nat} {Qc : Array Value → State → Outcome → State → Prop} (hc' : cells + mc ≤ mc') (hs' : slots + ms ≤ ms') :
    J p l e R s m args below meth c nL D A cells slots (vx_MQ below Qc (qX D tys A ws E) args s mc' ms' A) ws lv pc st := by
  subst hst; subst hws
  subst hq
  intro H locs ls hP hD hS hl
  obtain ⟨hPc, hDc⟩ := sub_world hP hD
  have hFc := free_all hDc hS C.2.2.2.2.2.2.1
  refine vx_calli (vx_runV (As := As) (rest := rest) ⟨C.1, C.2.1, C.2.2.1, C.2.2.2.1, C.2.2.2.2.1⟩ (hM htr H.size) cw ⟨pX.blind, va_recv C.2.2.2.2.2.1 hPc hc he, fun U hU hW => ⟨rfl, by rw [hU], by rw [hU]; exact hPc, va_K.moved hW.alike C.2.2.2.2.2.1, hDc.weaken (fun _ _ _ _ => trivial), by rw [hU]; exact xF.moved hW ((hx.kept hS.2.1).narrow hFc)⟩⟩ rfl hn hl.1 rfl (lv_room hro) dg hf) hS (fun q _ h => hFc q h) hFc (fun q _ h => hFc q h) (fun E' ce q9 u t H1 locs1 ht hvm _ hB hz1 hk1 hS1 hce hcv hcl => ?_) (fun r u t H1 locs1 ht hvm hw hB hz1 hk1 hS1 => hw.elim)
  obtain ⟨rfl, hP1, hK1, hD1⟩ := hB
  rw [ht] at hP1
  obtain ⟨hP2, hD2⟩ := frame_back (H0 := s.heap) (locs := locs) hP hD hFc hk1 hP1 hD1
  have hlk : meth.locks = false := C.2.2.2.2.2.2.2
  exact vx_out (fun x hx => (hno x hx).elim) hlk hce hcv hcl (fun t2 ht2 hvm2 => ⟨(), trivial, ⟨rfl, by rw [ht2]; exact hP2, va_K.moved hvm2 C.2.2.2.2.2.1, hD2⟩, hS1.F ht2⟩) hS1.2.2 hc' hs'
theorem j_callXI_catch (C : GC p s m args meth c cc nL own Ts D tys A) (htr : l.stackTraces = false) (hx : xF A s s.heap) {y : MethodName} {wy : List Cond} {rm' : Room} {bytes : ByteArray} {maxL n index mc ms : Nat} {h : Nat} {RX : String} {ret : Option FieldType} {As rest : List Value} {w0 wr : va_W} {E : String} (hws : ws = w0 ++ wr) (hM : cXI l y wy rm' D tys (.ref h :: As) w0 E mc ms) (cw : CallW R s args own RX index y bytes maxL ret wy rm' mc ms n)
    (q0 : Nat) {ci : Nat} {fs : List Value} {q : vw_C} (hc : vwCl[ci]? = some q) (he : w0[q0]? = some (h, .inr (ci, fs))) (hq : q.1 = RX) (dg : decode cc pc = .ok (.invokevirtual index, 3)) (hn : As.length = n) (hst : st = As.reverse ++ .ref h :: rest) (hro : (rest.map fun v => v.category).sum ≤ 8) (hf : cells + mc ≤ R.cells ∧ slots + ms ≤ R.slots) (pre : List ExceptionTableEntry) (x : ExceptionTableEntry) (suf : List ExceptionTableEntry) (hsplit : c.exceptionTable.toList = pre ++ x :: suf) (hpass : ∀ z ∈ pre, covers z pc = false ∨ (z.catchType ≠ 0 ∧ ∃ nm : String, (Cond.classLink own z.catchType nm).before args s = true ∧ (E, nm) ∈ xN)) (hcov : covers x pc = true) (h0 : x.catchType ≠ 0) (hlink : (Cond.classLink own x.catchType E).before args s = true) (hcast : .castable E E ∈ xW)
    (k : ∀ q9 : Nat, J p l e R s m args below meth c nL D A (cells + mc) (slots + ms) Q ws lv x.handlerPc [.ref q9]) : J p l e R s m args below meth c nL D A cells slots Q ws lv pc st := by
  subst hst; subst hws
  subst hq
  intro H locs ls hP hD hS hl
  obtain ⟨hPc, hDc⟩ := sub_world hP hD
  have hFc := free_all hDc hS C.2.2.2.2.2.2.1
  refine vx_calli (vx_runV (As := As) (rest := rest) ⟨C.1, C.2.1, C.2.2.1, C.2.2.2.1, C.2.2.2.2.1⟩ (hM htr H.size) cw ⟨pX.blind, va_recv C.2.2.2.2.2.1 hPc hc he, fun U hU hW => ⟨rfl, by rw [hU], by rw [hU]; exact hPc, va_K.moved hW.alike C.2.2.2.2.2.1, hDc.weaken (fun _ _ _ _ => trivial), by rw [hU]; exact xF.moved hW ((hx.kept hS.2.1).narrow hFc)⟩⟩ rfl hn hl.1 rfl (lv_room hro) dg hf) hS (fun q _ h => hFc q h) hFc (fun q _ h => hFc q h) (fun E' ce q9 u t H1 locs1 ht hvm _ hB hz1 hk1 hS1 hce hcv hcl => ?_) (fun r u t H1 locs1 ht hvm hw hB hz1 hk1 hS1 => hw.elim)
  obtain ⟨rfl, hP1, hK1, hD1⟩ := hB
  rw [ht] at hP1
  obtain ⟨hP2, hD2⟩ := frame_back (H0 := s.heap) (locs := locs) hP hD hFc hk1 hP1 hD1
  exact vx_catch C.2.2.2.1 pre x suf hsplit (fun z hz => (hpass z hz).imp id (fun h => ⟨h.1, h.2.imp fun nm h2 => ⟨h2.1, hx.2.2.2.2 _ h2.2⟩⟩)) hcov h0 hlink (va_Nw.use rfl (hx.1 _ hcast)) hce hcv hcl (k q9 H1 locs1 ls hP2 hD2 hS1 hl)
theorem j_callXSI_out (C : GC p s m args meth c cc nL own Ts D tys A) (htr : l.stackTraces = false) (hx : xF A s s.heap) {y : MethodName} {wy : List Cond} {rm' : Room} {bytes : ByteArray} {maxL n index mc ms : Nat} {ret : Option FieldType} {As rest : List Value} {w0 wr : va_W} {E : String} (hws : ws = w0 ++ wr) (hM : cXI l y wy rm' D tys As w0 E mc ms) (cw : CallB R s args own index y bytes maxL ret wy rm' mc ms n ∧ (Cond.static y).before args s = true)
    (dg : decode cc pc = .ok (.invokestatic index, 3)) (hn : As.length = n) (hst : st = As.reverse ++ rest) (hro : (rest.map fun v => v.category).sum ≤ 8) (hf : cells + mc ≤ R.cells ∧ slots + ms ≤ R.slots) (hno : ∀ x ∈ c.exceptionTable.toList, False) {mc' ms' : Nat} {Qc : Array Value → State → Outcome → State → Prop} (hc' : cells + mc ≤ mc') (hs' : slots + ms ≤ ms') :
    J p l e R s m args below meth c nL D A cells slots (vx_MQ below Qc (qX D tys A ws E) args s mc' ms' A) ws lv pc st := by
  subst hst; subst hws
  intro H locs ls hP hD hS hl
  obtain ⟨hPc, hDc⟩ := sub_world hP hD
  have hFc := free_all hDc hS C.2.2.2.2.2.2.1
  refine vx_calli (vx_runS (As := As) (rest := rest) ⟨C.1, C.2.1, C.2.2.1, C.2.2.2.1, C.2.2.2.2.1⟩ (hM htr H.size) cw ⟨pX.blind, fun U hU hW => ⟨rfl, by rw [hU], by rw [hU]; exact hPc, va_K.moved hW.alike C.2.2.2.2.2.1, hDc.weaken (fun _ _ _ _ => trivial), by rw [hU]; exact xF.moved hW ((hx.kept hS.2.1).narrow hFc)⟩⟩ rfl hn hl.1 rfl (lv_room hro) dg hf) hS (fun q _ h => hFc q h) hFc (fun q _ h => hFc q h) (fun E' ce q9 u t H1 locs1 ht hvm _ hB hz1 hk1 hS1 hce hcv hcl => ?_) (fun r u t H1 locs1 ht hvm hw hB hz1 hk1 hS1 => hw.elim)
  obtain ⟨rfl, hP1, hK1, hD1⟩ := hB
  rw [ht] at hP1
  obtain ⟨hP2, hD2⟩ := frame_back (H0 := s.heap) (locs := locs) hP hD hFc hk1 hP1 hD1
  have hlk : meth.locks = false := C.2.2.2.2.2.2.2
  exact vx_out (fun x hx => (hno x hx).elim) hlk hce hcv hcl (fun t2 ht2 hvm2 => ⟨(), trivial, ⟨rfl, by rw [ht2]; exact hP2, va_K.moved hvm2 C.2.2.2.2.2.1, hD2⟩, hS1.F ht2⟩) hS1.2.2 hc' hs'
theorem j_callSIX (C : GC p s m args meth c cc nL own Ts D tys A) (htr : l.stackTraces = false) (hx : xF A s s.heap) {y : MethodName} {wy : List Cond} {rm' : Room} {bytes : ByteArray} {maxL n index mc ms : Nat} {ret : Option FieldType} {hh : List (Nat × Nat × Nat × Nat)} {As rest : List Value} {w0 w1 wr : va_W} {r0 : Int32} (hws : ws = w0 ++ wr) (hM : cIX l y wy rm' D tys As w0 w1 r0 mc ms) (cw : vx_CSW R s args own index y bytes maxL ret hh wy rm' mc ms n)
    (dg : decode cc pc = .ok (.invokestatic index, 3)) (hn : As.length = n) (hst : st = As.reverse ++ rest) (hro : (rest.map fun v => v.category).sum ≤ 8) (hf : cells + mc ≤ R.cells ∧ slots + ms ≤ R.slots)
    (k : J p l e R s m args below meth c nL D A (cells + mc) (slots + ms) Q (w1 ++ wr) lv (pc + 3) (.int r0 :: rest)) : J p l e R s m args below meth c nL D A cells slots Q ws lv pc st := by
  subst hst; subst hws
  intro H locs ls hP hD hS hl
  obtain ⟨hPc, hDc⟩ := sub_world hP hD
  have hFc := free_all hDc hS C.2.2.2.2.2.2.1
  refine va_calli (vx_runSW (As := As) (rest := rest) ⟨C.1, C.2.1, C.2.2.1, C.2.2.2.1, C.2.2.2.2.1⟩ (hM htr H.size) cw ⟨pX.blind, fun U hU hW => ⟨rfl, by rw [hU], by rw [hU]; exact hPc, va_K.moved hW.alike C.2.2.2.2.2.1, hDc.weaken (fun _ _ _ _ => trivial), by rw [hU]; exact xF.moved hW ((hx.kept hS.2.1).narrow hFc)⟩⟩ rfl hn hl.1 rfl (lv_room hro) dg hf) hS (fun q _ h => hFc q h) hFc (fun r u t H1 locs1 ht hvm hw hB hz1 hk1 hS1 => ?_)
  obtain ⟨hP1, hK1, hD1⟩ := hB
  rw [ht] at hP1
  have hw : r = r0 := hw
  subst hw
  obtain ⟨hP2, hD2⟩ := frame_back (H0 := s.heap) (locs := locs) hP hD hFc hk1 hP1 hD1
  exact k H1 locs1 ls hP2 hD2 hS1 hl
/-- out[0] -/
theorem j_lald (C : GC p s m args meth c cc nL own Ts D tys A) (q0 t0 : Nat) {cA : ClassId} {a n : Nat} {f : Nat → Int64} (ha : ws[q0]? = some (a, .inl (cA, n, .inr (.inl f)))) (ht : tys[t0]? = some (cA, .long)) (hn : 0 < n) (hn2 : n < 1000) (dg : decode cc pc = .ok (.laload, 1))
    (k : J p l e R s m args below meth c nL D A cells slots Q ws lv (pc + 1) (.long (f 0) :: st)) : J p l e R s m args below meth c nL D A cells slots Q ws lv pc (.int (zI 0) :: .ref a :: st) := by
  intro H locs ls hP hD hS hl
  have e0 : (0 : Int32).toNatClampNeg = 0 := by decide +kernel
  refine va_lald C.1 C.2.1 C.2.2.2.2.2.1 hP q0 t0 ha ht (zI_in (by decide) (by omega) (by omega)) dg ?_
  rw [zI_0, e0]
  exact k H locs ls hP hD hS hl
theorem j_last (C : GC p s m args meth c cc nL own Ts D tys A) (q0 t0 : Nat) {cA : ClassId} {a n : Nat} {f : Nat → Int64} {x : Int64} (ha : ws[q0]? = some (a, .inl (cA, n, .inr (.inl f)))) (ht : tys[t0]? = some (cA, .long)) (hn : 0 < n) (hn2 : n < 1000) {ws' : va_W} (hw : ws.set q0 (a, .inl (cA, n, .inr (.inl (vp_updL f 0 x)))) = ws') (dg : decode cc pc = .ok (.lastore, 1))
    (k : J p l e R s m args below meth c nL D A cells slots Q ws' lv (pc + 1) st) : J p l e R s m args below meth c nL D A cells slots Q ws lv pc (.long x :: .int (zI 0) :: .ref a :: st) := by
  subst hw
  intro H locs ls hP hD hS hl
  have e0 : (0 : Int32).toNatClampNeg = 0 := by decide +kernel
  refine va_last C.1 C.2.1 C.2.2.2.2.2.1 hP hD hS q0 t0 ha ht (zI_in (by decide) (by omega) (by omega)) dg (fun H1 locs1 hP1 hD1 hS1 => ?_)
  rw [zI_0, e0] at hP1 hD1
  exact k H1 locs1 ls hP1 hD1 hS1 hl
theorem j_lconst (C : GC p s m args meth c cc nL own Ts D tys A) {n : Fin 2} {v : Int64} (dg : decode cc pc = .ok (.lconst n, 1)) (hv : Int64.ofNat (n : Nat) = v)
    (k : J p l e R s m args below meth c nL D A cells slots Q ws lv (pc + 1) (.long v :: st)) : J p l e R s m args below meth c nL D A cells slots Q ws lv pc st :=
  fun H locs ls hP hD hS hl => lv_lconst C.1 C.2.1 dg hv (k H locs ls hP hD hS hl)
end JE
theorem x_names : ∀ n ∈ ["java/lang/RuntimeException", "java/lang/Exception"], Bundle.fit n = true := by decide +kernel
theorem x_tab : ∀ w ∈ xW, w.onTables = true := by decide +kernel
theorem x_bad54 : ∀ w ∈ (vx_atS RX0 54 "java/lang/IllegalArgumentException" ["java/lang/RuntimeException", "java/lang/Exception"]).filter (fun w => !goodWord w), w ∈ xW := by decide +kernel
theorem x_bad64 : ∀ w ∈ (vx_atS RX0 64 "java/lang/IllegalStateException" ["java/lang/RuntimeException", "java/lang/Exception"]).filter (fun w => !goodWord w), w ∈ xW := by decide +kernel
theorem x_bad138 : ∀ w ∈ (vx_atS RX0 138 "java/lang/IndexOutOfBoundsException" ["java/lang/RuntimeException", "java/lang/Exception"]).filter (fun w => !goodWord w), w ∈ xW := by decide +kernel
theorem x_ot54 : ∀ w ∈ Cond.classLink RX0 50 "java/lang/IllegalArgumentException" :: Cond.initialized "java/lang/IllegalArgumentException" :: vx_atS RX0 54 "java/lang/IllegalArgumentException" ["java/lang/RuntimeException", "java/lang/Exception"], vx_ot w = true := by decide +kernel
theorem x_ot64 : ∀ w ∈ Cond.classLink RX0 60 "java/lang/IllegalStateException" :: Cond.initialized "java/lang/IllegalStateException" :: vx_atS RX0 64 "java/lang/IllegalStateException" ["java/lang/RuntimeException", "java/lang/Exception"], vx_ot w = true := by decide +kernel
theorem x_ot138 : ∀ w ∈ Cond.classLink RX0 134 "java/lang/IndexOutOfBoundsException" :: Cond.initialized "java/lang/IndexOutOfBoundsException" :: vx_atS RX0 138 "java/lang/IndexOutOfBoundsException" ["java/lang/RuntimeException", "java/lang/Exception"], vx_ot w = true := by decide +kernel
