/-! ===== contracts: a method's end and world are functions of its start ===== -/
def cP (D : va_G) (tys : List (ClassId × FieldType)) (av : List Value) (w : va_W) (sz : Nat) : Array Value → State → Prop := va_Pc av (fun U => U.heap.size = sz ∧ va_P D vwCl w U.heap ∧ va_K D vwCl tys U ∧ va_D (fun _ => True) w)
def cB (D : va_G) (tys : List (ClassId × FieldType)) (A : Nat → Prop) (w1 : va_W) : Unit → State → Prop := fun _ t => va_P D vwCl w1 t.heap ∧ va_K D vwCl tys t ∧ va_D A w1
theorem cP.blind {D : va_G} {tys : List (ClassId × FieldType)} {av : List Value} {w : va_W} {sz : Nat} : FrameBlind (cP D tys av w sz) := fun a U g mk q => by
  obtain ⟨q0, q1, qP, qK, qD⟩ := q
  exact ⟨q0, q1, qP, va_K.moved (u := U) (U := U.calling g mk a) (Vm.Alike.refl U.vm) qK, qD⟩
theorem free_all {A : Nat → Prop} {ws : va_W} {H0 H : Heap} {locs : List Loc} (hD : va_D A ws) (hS : va_S A H0 H locs) (hA : ∀ q, H0.size ≤ q → A q) : ∀ q, va_A ws H.size q → A q := by
  intro q h
  rcases h with ⟨k, e, h⟩ | h
  · exact hD.2 k (q, e) h
  · exact hA q (Nat.le_trans hS.1 h)
def qI (D : va_G) (tys : List (ClassId × FieldType)) (A : Nat → Prop) (w1 : va_W) (r0 : Int32) : Array Value → State → Outcome → State → Prop := va_Qi (fun (r : Int32) (_ : Unit) => r = r0) (cB D tys A w1) A
def cI (l : Launch) (y : MethodName) (ws : List Cond) (rm : Room) (D : va_G) (tys : List (ClassId × FieldType)) (av : List Value) (w w1 : va_W) (r0 : Int32) (mc ms : Nat) : Prop := ∀ sz : Nat, Met l y ws rm (cP D tys av w sz) (qI D tys (va_A w sz) w1 r0) mc ms (va_A w sz)
theorem cI.of {l : Launch} {y : MethodName} {ws ws' : List Cond} {rm : Room} {cc : ByteArray} {maxL : Nat} {ret : FieldType} {D : va_G} {tys : List (ClassId × FieldType)} {av : List Value} {w w1 : va_W} {r0 : Int32} {mc ms : Nat} (hy : plainName y.cls = true) (hw : ws = Cond.code y cc maxL (some ret) :: ws') {lv : List (Nat × Value)} (ks : List Nat) (hlv : lv_pick (lv_args 0 av) ks = lv) (hav : (lg_sl av).length ≤ maxL)
    (body : ∀ (p : Program) (e : Env) (s : State) (m : MethodId) (args : Array Value) (below : List Frame) (meth : Method) (c : Code) (A : Nat → Prop), GC p s m args meth c cc maxL y.cls ws D tys A → meth.sig.returnType = some ret → J p l e rm s m args below meth c maxL D A 0 0 (MQ below (qI D tys A w1 r0) args s mc ms A) w lv 0 []) : cI l y ws rm D tys av w w1 r0 mc ms := by
  intro sz
  refine Met.ofW (cc := cc) (maxL := maxL) (ret := some ret) hy hw ?_
  intro p e s m args below meth c s₁ B hml hv
  obtain ⟨rfl, hsz, hP, hK, hD0⟩ := hv
  subst hsz
  have hD := hD0.self (sz := s.heap.size)
  have hl := lv_entry av (n := maxL) hav
  rw [lg_entry_eq]
  exact body p e s m av.toArray below meth c (va_A w s.heap.size) ⟨B.exec, B.bytes, hml, findClass_of_methodNamed B.named, atoms_spec (ws := ws) B.pre, hK, fun q h => Or.inr h, B.notSynchronized⟩ B.returns s.heap [] _ hP hD va_S.rf (lv_sub hl ks hlv)
theorem cI.ofW {l : Launch} {y : MethodName} {ws ws' : List Cond} {rm : Room} {cc : ByteArray} {maxL : Nat} {ret : FieldType} {hh : List (Nat × Nat × Nat × Nat)} {D : va_G} {tys : List (ClassId × FieldType)} {av : List Value} {w w1 : va_W} {r0 : Int32} {mc ms : Nat} (hy : plainName y.cls = true) (hw : ws = Cond.codeWith y cc maxL (some ret) hh :: ws') {lv : List (Nat × Value)} (ks : List Nat) (hlv : lv_pick (lv_args 0 av) ks = lv) (hav : (lg_sl av).length ≤ maxL)
    (body : ∀ (p : Program) (e : Env) (s : State) (m : MethodId) (args : Array Value) (below : List Frame) (meth : Method) (c : Code) (A : Nat → Prop), GC p s m args meth c cc maxL y.cls ws D tys A → meth.sig.returnType = some ret → J p l e rm s m args below meth c maxL D A 0 0 (MQ below (qI D tys A w1 r0) args s mc ms A) w lv 0 []) : cI l y ws rm D tys av w w1 r0 mc ms := by
  intro sz
  refine va_MetW (hh := hh) (cc := cc) (maxL := maxL) (ret := some ret) hy hw ?_
  intro p e s m args below meth c s₁ B hml hv
  obtain ⟨rfl, hsz, hP, hK, hD0⟩ := hv
  subst hsz
  have hD := hD0.self (sz := s.heap.size)
  have hl := lv_entry av (n := maxL) hav
  rw [lg_entry_eq]
  exact body p e s m av.toArray below meth c (va_A w s.heap.size) ⟨B.exec, B.bytes, hml, findClass_of_methodNamed B.named, atoms_spec (ws := ws) B.pre, hK, fun q h => Or.inr h, B.notSynchronized⟩ B.returns s.heap [] _ hP hD va_S.rf (lv_sub hl ks hlv)
def qL (D : va_G) (tys : List (ClassId × FieldType)) (A : Nat → Prop) (w1 : va_W) (r0 : Int64) : Array Value → State → Outcome → State → Prop := va_Ql (fun (r : Int64) (_ : Unit) => r = r0) (cB D tys A w1) A
def cL (l : Launch) (y : MethodName) (ws : List Cond) (rm : Room) (D : va_G) (tys : List (ClassId × FieldType)) (av : List Value) (w w1 : va_W) (r0 : Int64) (mc ms : Nat) : Prop := ∀ sz : Nat, Met l y ws rm (cP D tys av w sz) (qL D tys (va_A w sz) w1 r0) mc ms (va_A w sz)
theorem cL.of {l : Launch} {y : MethodName} {ws ws' : List Cond} {rm : Room} {cc : ByteArray} {maxL : Nat}  {D : va_G} {tys : List (ClassId × FieldType)} {av : List Value} {w w1 : va_W} {r0 : Int64} {mc ms : Nat} (hy : plainName y.cls = true) (hw : ws = Cond.code y cc maxL (some .long) :: ws') {lv : List (Nat × Value)} (ks : List Nat) (hlv : lv_pick (lv_args 0 av) ks = lv) (hav : (lg_sl av).length ≤ maxL)
    (body : ∀ (p : Program) (e : Env) (s : State) (m : MethodId) (args : Array Value) (below : List Frame) (meth : Method) (c : Code) (A : Nat → Prop), GC p s m args meth c cc maxL y.cls ws D tys A → meth.sig.returnType = some .long → J p l e rm s m args below meth c maxL D A 0 0 (MQ below (qL D tys A w1 r0) args s mc ms A) w lv 0 []) : cL l y ws rm D tys av w w1 r0 mc ms := by
  intro sz
  refine Met.ofW (cc := cc) (maxL := maxL) (ret := some .long) hy hw ?_
  intro p e s m args below meth c s₁ B hml hv
  obtain ⟨rfl, hsz, hP, hK, hD0⟩ := hv
  subst hsz
  have hD := hD0.self (sz := s.heap.size)
  have hl := lv_entry av (n := maxL) hav
  rw [lg_entry_eq]
  exact body p e s m av.toArray below meth c (va_A w s.heap.size) ⟨B.exec, B.bytes, hml, findClass_of_methodNamed B.named, atoms_spec (ws := ws) B.pre, hK, fun q h => Or.inr h, B.notSynchronized⟩ B.returns s.heap [] _ hP hD va_S.rf (lv_sub hl ks hlv)
theorem cL.ofW {l : Launch} {y : MethodName} {ws ws' : List Cond} {rm : Room} {cc : ByteArray} {maxL : Nat}  {hh : List (Nat × Nat × Nat × Nat)} {D : va_G} {tys : List (ClassId × FieldType)} {av : List Value} {w w1 : va_W} {r0 : Int64} {mc ms : Nat} (hy : plainName y.cls = true) (hw : ws = Cond.codeWith y cc maxL (some .long) hh :: ws') {lv : List (Nat × Value)} (ks : List Nat) (hlv : lv_pick (lv_args 0 av) ks = lv) (hav : (lg_sl av).length ≤ maxL)
    (body : ∀ (p : Program) (e : Env) (s : State) (m : MethodId) (args : Array Value) (below : List Frame) (meth : Method) (c : Code) (A : Nat → Prop), GC p s m args meth c cc maxL y.cls ws D tys A → meth.sig.returnType = some .long → J p l e rm s m args below meth c maxL D A 0 0 (MQ below (qL D tys A w1 r0) args s mc ms A) w lv 0 []) : cL l y ws rm D tys av w w1 r0 mc ms := by
  intro sz
  refine va_MetW (hh := hh) (cc := cc) (maxL := maxL) (ret := some .long) hy hw ?_
  intro p e s m args below meth c s₁ B hml hv
  obtain ⟨rfl, hsz, hP, hK, hD0⟩ := hv
  subst hsz
  have hD := hD0.self (sz := s.heap.size)
  have hl := lv_entry av (n := maxL) hav
  rw [lg_entry_eq]
  exact body p e s m av.toArray below meth c (va_A w s.heap.size) ⟨B.exec, B.bytes, hml, findClass_of_methodNamed B.named, atoms_spec (ws := ws) B.pre, hK, fun q h => Or.inr h, B.notSynchronized⟩ B.returns s.heap [] _ hP hD va_S.rf (lv_sub hl ks hlv)
def qD (D : va_G) (tys : List (ClassId × FieldType)) (A : Nat → Prop) (w1 : va_W) (r0 : UInt64) : Array Value → State → Outcome → State → Prop := va_Qd (fun (r : UInt64) (_ : Unit) => r = r0) (cB D tys A w1) A
def cD (l : Launch) (y : MethodName) (ws : List Cond) (rm : Room) (D : va_G) (tys : List (ClassId × FieldType)) (av : List Value) (w w1 : va_W) (r0 : UInt64) (mc ms : Nat) : Prop := ∀ sz : Nat, Met l y ws rm (cP D tys av w sz) (qD D tys (va_A w sz) w1 r0) mc ms (va_A w sz)
theorem cD.of {l : Launch} {y : MethodName} {ws ws' : List Cond} {rm : Room} {cc : ByteArray} {maxL : Nat}  {D : va_G} {tys : List (ClassId × FieldType)} {av : List Value} {w w1 : va_W} {r0 : UInt64} {mc ms : Nat} (hy : plainName y.cls = true) (hw : ws = Cond.code y cc maxL (some .double) :: ws') {lv : List (Nat × Value)} (ks : List Nat) (hlv : lv_pick (lv_args 0 av) ks = lv) (hav : (lg_sl av).length ≤ maxL)
    (body : ∀ (p : Program) (e : Env) (s : State) (m : MethodId) (args : Array Value) (below : List Frame) (meth : Method) (c : Code) (A : Nat → Prop), GC p s m args meth c cc maxL y.cls ws D tys A → meth.sig.returnType = some .double → J p l e rm s m args below meth c maxL D A 0 0 (MQ below (qD D tys A w1 r0) args s mc ms A) w lv 0 []) : cD l y ws rm D tys av w w1 r0 mc ms := by
  intro sz
  refine Met.ofW (cc := cc) (maxL := maxL) (ret := some .double) hy hw ?_
  intro p e s m args below meth c s₁ B hml hv
  obtain ⟨rfl, hsz, hP, hK, hD0⟩ := hv
  subst hsz
  have hD := hD0.self (sz := s.heap.size)
  have hl := lv_entry av (n := maxL) hav
  rw [lg_entry_eq]
  exact body p e s m av.toArray below meth c (va_A w s.heap.size) ⟨B.exec, B.bytes, hml, findClass_of_methodNamed B.named, atoms_spec (ws := ws) B.pre, hK, fun q h => Or.inr h, B.notSynchronized⟩ B.returns s.heap [] _ hP hD va_S.rf (lv_sub hl ks hlv)
theorem cD.ofW {l : Launch} {y : MethodName} {ws ws' : List Cond} {rm : Room} {cc : ByteArray} {maxL : Nat}  {hh : List (Nat × Nat × Nat × Nat)} {D : va_G} {tys : List (ClassId × FieldType)} {av : List Value} {w w1 : va_W} {r0 : UInt64} {mc ms : Nat} (hy : plainName y.cls = true) (hw : ws = Cond.codeWith y cc maxL (some .double) hh :: ws') {lv : List (Nat × Value)} (ks : List Nat) (hlv : lv_pick (lv_args 0 av) ks = lv) (hav : (lg_sl av).length ≤ maxL)
    (body : ∀ (p : Program) (e : Env) (s : State) (m : MethodId) (args : Array Value) (below : List Frame) (meth : Method) (c : Code) (A : Nat → Prop), GC p s m args meth c cc maxL y.cls ws D tys A → meth.sig.returnType = some .double → J p l e rm s m args below meth c maxL D A 0 0 (MQ below (qD D tys A w1 r0) args s mc ms A) w lv 0 []) : cD l y ws rm D tys av w w1 r0 mc ms := by
  intro sz
  refine va_MetW (hh := hh) (cc := cc) (maxL := maxL) (ret := some .double) hy hw ?_
  intro p e s m args below meth c s₁ B hml hv
  obtain ⟨rfl, hsz, hP, hK, hD0⟩ := hv
  subst hsz
  have hD := hD0.self (sz := s.heap.size)
  have hl := lv_entry av (n := maxL) hav
  rw [lg_entry_eq]
  exact body p e s m av.toArray below meth c (va_A w s.heap.size) ⟨B.exec, B.bytes, hml, findClass_of_methodNamed B.named, atoms_spec (ws := ws) B.pre, hK, fun q h => Or.inr h, B.notSynchronized⟩ B.returns s.heap [] _ hP hD va_S.rf (lv_sub hl ks hlv)
def qV (D : va_G) (tys : List (ClassId × FieldType)) (A : Nat → Prop) (w1 : va_W)  : Array Value → State → Outcome → State → Prop := va_Qv (fun (_ : Unit) => True) (cB D tys A w1) A
def cV (l : Launch) (y : MethodName) (ws : List Cond) (rm : Room) (D : va_G) (tys : List (ClassId × FieldType)) (av : List Value) (w w1 : va_W)  (mc ms : Nat) : Prop := ∀ sz : Nat, Met l y ws rm (cP D tys av w sz) (qV D tys (va_A w sz) w1 ) mc ms (va_A w sz)
theorem cV.of {l : Launch} {y : MethodName} {ws ws' : List Cond} {rm : Room} {cc : ByteArray} {maxL : Nat}  {D : va_G} {tys : List (ClassId × FieldType)} {av : List Value} {w w1 : va_W}  {mc ms : Nat} (hy : plainName y.cls = true) (hw : ws = Cond.code y cc maxL (none) :: ws') {lv : List (Nat × Value)} (ks : List Nat) (hlv : lv_pick (lv_args 0 av) ks = lv) (hav : (lg_sl av).length ≤ maxL)
    (body : ∀ (p : Program) (e : Env) (s : State) (m : MethodId) (args : Array Value) (below : List Frame) (meth : Method) (c : Code) (A : Nat → Prop), GC p s m args meth c cc maxL y.cls ws D tys A → meth.sig.returnType = none → J p l e rm s m args below meth c maxL D A 0 0 (MQ below (qV D tys A w1 ) args s mc ms A) w lv 0 []) : cV l y ws rm D tys av w w1  mc ms := by
  intro sz
  refine Met.ofW (cc := cc) (maxL := maxL) (ret := none) hy hw ?_
  intro p e s m args below meth c s₁ B hml hv
  obtain ⟨rfl, hsz, hP, hK, hD0⟩ := hv
  subst hsz
  have hD := hD0.self (sz := s.heap.size)
  have hl := lv_entry av (n := maxL) hav
  rw [lg_entry_eq]
  exact body p e s m av.toArray below meth c (va_A w s.heap.size) ⟨B.exec, B.bytes, hml, findClass_of_methodNamed B.named, atoms_spec (ws := ws) B.pre, hK, fun q h => Or.inr h, B.notSynchronized⟩ B.returns s.heap [] _ hP hD va_S.rf (lv_sub hl ks hlv)
theorem cV.ofW {l : Launch} {y : MethodName} {ws ws' : List Cond} {rm : Room} {cc : ByteArray} {maxL : Nat}  {hh : List (Nat × Nat × Nat × Nat)} {D : va_G} {tys : List (ClassId × FieldType)} {av : List Value} {w w1 : va_W}  {mc ms : Nat} (hy : plainName y.cls = true) (hw : ws = Cond.codeWith y cc maxL (none) hh :: ws') {lv : List (Nat × Value)} (ks : List Nat) (hlv : lv_pick (lv_args 0 av) ks = lv) (hav : (lg_sl av).length ≤ maxL)
    (body : ∀ (p : Program) (e : Env) (s : State) (m : MethodId) (args : Array Value) (below : List Frame) (meth : Method) (c : Code) (A : Nat → Prop), GC p s m args meth c cc maxL y.cls ws D tys A → meth.sig.returnType = none → J p l e rm s m args below meth c maxL D A 0 0 (MQ below (qV D tys A w1 ) args s mc ms A) w lv 0 []) : cV l y ws rm D tys av w w1  mc ms := by
  intro sz
  refine va_MetW (hh := hh) (cc := cc) (maxL := maxL) (ret := none) hy hw ?_
  intro p e s m args below meth c s₁ B hml hv
  obtain ⟨rfl, hsz, hP, hK, hD0⟩ := hv
  subst hsz
  have hD := hD0.self (sz := s.heap.size)
  have hl := lv_entry av (n := maxL) hav
  rw [lg_entry_eq]
  exact body p e s m av.toArray below meth c (va_A w s.heap.size) ⟨B.exec, B.bytes, hml, findClass_of_methodNamed B.named, atoms_spec (ws := ws) B.pre, hK, fun q h => Or.inr h, B.notSynchronized⟩ B.returns s.heap [] _ hP hD va_S.rf (lv_sub hl ks hlv)
section JC
variable {p : Program} {l : Launch} {e : Env} {R : Room} {s : State} {m : MethodId} {args : Array Value} {below : List Frame} {meth : Method} {c : Code} {cc : ByteArray} {nL : Nat} {own : String} {Ts : List Cond} {D : va_G} {tys : List (ClassId × FieldType)} {A : Nat → Prop} {cells slots : Nat} {Q : State → Prop} {ws : va_W} {lv : List (Nat × Value)} {pc : Nat} {st : List Value}
theorem j_iret (C : GC p s m args meth c cc nL own Ts D tys A) (hr : meth.sig.returnType = some .int) {w1 : va_W} {r0 v : Int32} {mc ms : Nat} (dg : decode cc pc = .ok (.ireturn, 1)) (hv : v = r0) (hw : ws = w1) (hc : cells ≤ mc) (hs : slots ≤ ms) : J p l e R s m args below meth c nL D A cells slots (MQ below (qI D tys A w1 r0) args s mc ms A) ws lv pc [.int v] := by
  subst hv; subst hw
  intro H locs ls hP hD hS hl
  have hlocks : meth.locks = false := C.2.2.2.2.2.2.2
  refine W.widen hc hs ?_
  exact W.iret C.1 C.2.1 hr (fun t ht hW => ⟨⟨_, (), rfl, rfl, by rw [ht]; exact hP, va_K.moved hW.alike C.2.2.2.2.2.1, hD⟩, hS.F ht⟩) hS.2.2 dg hlocks
theorem j_zret (C : GC p s m args meth c cc nL own Ts D tys A) (hr : meth.sig.returnType = some .boolean) {w1 : va_W} {r0 v : Int32} {mc ms : Nat} (dg : decode cc pc = .ok (.ireturn, 1)) (hn : narrow .boolean (.int v) = .int v) (hv : v = r0) (hw : ws = w1) (hc : cells ≤ mc) (hs : slots ≤ ms) : J p l e R s m args below meth c nL D A cells slots (MQ below (qI D tys A w1 r0) args s mc ms A) ws lv pc [.int v] := by
  subst hv; subst hw
  intro H locs ls hP hD hS hl
  have hlocks : meth.locks = false := C.2.2.2.2.2.2.2
  refine W.widen hc hs ?_
  exact W.zret C.1 C.2.1 hr hn (fun t ht hW => ⟨⟨_, (), rfl, rfl, by rw [ht]; exact hP, va_K.moved hW.alike C.2.2.2.2.2.1, hD⟩, hS.F ht⟩) hS.2.2 dg hlocks
theorem j_callI (C : GC p s m args meth c cc nL own Ts D tys A) {y : MethodName} {wy : List Cond} {rm' : Room} {bytes : ByteArray} {maxL n index mc ms h : Nat} {ret : Option FieldType} {RX : String} {As rest : List Value} {w1 : va_W} {r0 : Int32} (hM : cI l y wy rm' D tys (.ref h :: As) ws w1 r0 mc ms) (cw : CallW R s args own RX index y bytes maxL ret wy rm' mc ms n)
    (q0 : Nat) {ci : Nat} {fs : List Value} {q : vw_C} (hc : vwCl[ci]? = some q) (he : ws[q0]? = some (h, .inr (ci, fs))) (hq : q.1 = RX) (dg : decode cc pc = .ok (.invokevirtual index, 3)) (hn : As.length = n) (hst : st = As.reverse ++ .ref h :: rest) (hro : (rest.map fun v => v.category).sum ≤ 8) (hf : cells + mc ≤ R.cells ∧ slots + ms ≤ R.slots)
    (k : J p l e R s m args below meth c nL D A (cells + mc) (slots + ms) Q w1 lv (pc + 3) (.int r0 :: rest)) : J p l e R s m args below meth c nL D A cells slots Q ws lv pc st := by
  subst hst; subst hq
  intro H locs ls hP hD hS hl
  have hFc := free_all hD hS C.2.2.2.2.2.2.1
  refine va_calli (va_runV (As := As) (rest := rest) ⟨C.1, C.2.1, C.2.2.1, C.2.2.2.1, C.2.2.2.2.1⟩ (hM H.size) cw ⟨cP.blind, va_recv C.2.2.2.2.2.1 hP hc he, fun U hU hW => ⟨rfl, by rw [hU], by rw [hU]; exact hP, va_K.moved hW.alike C.2.2.2.2.2.1, hD.weaken (fun _ _ _ _ => trivial)⟩⟩ rfl hn hl.1 rfl (lv_room hro) dg hf) hS (fun q _ h => hFc q h) hFc (fun r u t H1 locs1 ht hvm hw hB hz1 hk1 hS1 => ?_)
  obtain ⟨hP1, hK1, hD1⟩ := hB
  rw [ht] at hP1
  have hw : r = r0 := hw
  subst hw
  exact k H1 locs1 ls hP1 (hD1.weaken (fun _ q _ hA => hFc q.1 hA)) hS1 hl
theorem j_callSI (C : GC p s m args meth c cc nL own Ts D tys A) {y : MethodName} {wy : List Cond} {rm' : Room} {bytes : ByteArray} {maxL n index : Nat} {ret : Option FieldType} {As rest : List Value} {r0 : Int32} (hM : cI l y wy rm' D tys As [] [] r0 0 0) (cw : CallB R s args own index y bytes maxL ret wy rm' 0 0 n ∧ (Cond.static y).before args s = true)
    (dg : decode cc pc = .ok (.invokestatic index, 3)) (hn : As.length = n) (hst : st = As.reverse ++ rest) (hro : (rest.map fun v => v.category).sum ≤ 8) (hf : cells ≤ R.cells ∧ slots ≤ R.slots)
    (k : J p l e R s m args below meth c nL D A cells slots Q ws lv (pc + 3) (.int r0 :: rest)) : J p l e R s m args below meth c nL D A cells slots Q ws lv pc st := by
  subst hst
  intro H locs ls hP hD hS hl
  have hFc : ∀ q, va_A [] H.size q → A q := fun q h => by
    rcases h with ⟨k, e, h⟩ | h
    · simp at h
    · exact C.2.2.2.2.2.2.1 q (Nat.le_trans hS.1 h)
  refine va_calli (va_runS (As := As) (rest := rest) ⟨C.1, C.2.1, C.2.2.1, C.2.2.2.1, C.2.2.2.2.1⟩ (hM H.size) cw ⟨cP.blind, fun U hU hW => ⟨rfl, by rw [hU], fun k q h => by simp at h, va_K.moved hW.alike C.2.2.2.2.2.1, ⟨fun i j p q h => by simp at h, fun k q h => by simp at h⟩⟩⟩ rfl hn hl.1 rfl (lv_room hro) dg hf) hS (fun q _ h => hFc q h) hFc (fun r u t H1 locs1 ht hvm hw hB hz1 hk1 hS1 => ?_)
  have hw : r = r0 := hw
  subst hw
  have hP1 : va_P D vwCl ws H1 := hP.kept (fun k q hq => hk1 q.1 ((hP k q hq).lt) (fun h => by
    rcases h with ⟨k, e, h⟩ | h
    · simp at h
    · exact absurd ((hP k q hq).lt) (Nat.not_lt.mpr h)))
  exact k H1 locs1 ls hP1 hD hS1 hl
theorem j_lret (C : GC p s m args meth c cc nL own Ts D tys A) (hr : meth.sig.returnType = some .long) {w1 : va_W} {r0 v : Int64} {mc ms : Nat} (dg : decode cc pc = .ok (.lreturn, 1)) (hv : v = r0) (hw : ws = w1) (hc : cells ≤ mc) (hs : slots ≤ ms) : J p l e R s m args below meth c nL D A cells slots (MQ below (qL D tys A w1 r0) args s mc ms A) ws lv pc [.long v] := by
  subst hv; subst hw
  intro H locs ls hP hD hS hl
  have hlocks : meth.locks = false := C.2.2.2.2.2.2.2
  refine W.widen hc hs ?_
  exact W.lret C.1 C.2.1 hr (fun t ht hW => ⟨⟨_, (), rfl, rfl, by rw [ht]; exact hP, va_K.moved hW.alike C.2.2.2.2.2.1, hD⟩, hS.F ht⟩) hS.2.2 dg hlocks
theorem j_callL (C : GC p s m args meth c cc nL own Ts D tys A) {y : MethodName} {wy : List Cond} {rm' : Room} {bytes : ByteArray} {maxL n index mc ms h : Nat} {ret : Option FieldType} {RX : String} {As rest : List Value} {w1 : va_W} {r0 : Int64} (hM : cL l y wy rm' D tys (.ref h :: As) ws w1 r0 mc ms) (cw : CallW R s args own RX index y bytes maxL ret wy rm' mc ms n)
    (q0 : Nat) {ci : Nat} {fs : List Value} {q : vw_C} (hc : vwCl[ci]? = some q) (he : ws[q0]? = some (h, .inr (ci, fs))) (hq : q.1 = RX) (dg : decode cc pc = .ok (.invokevirtual index, 3)) (hn : As.length = n) (hst : st = As.reverse ++ .ref h :: rest) (hro : (rest.map fun v => v.category).sum ≤ 8) (hf : cells + mc ≤ R.cells ∧ slots + ms ≤ R.slots)
    (k : J p l e R s m args below meth c nL D A (cells + mc) (slots + ms) Q w1 lv (pc + 3) (.long r0 :: rest)) : J p l e R s m args below meth c nL D A cells slots Q ws lv pc st := by
  subst hst; subst hq
  intro H locs ls hP hD hS hl
  have hFc := free_all hD hS C.2.2.2.2.2.2.1
  refine va_calll (va_runV (As := As) (rest := rest) ⟨C.1, C.2.1, C.2.2.1, C.2.2.2.1, C.2.2.2.2.1⟩ (hM H.size) cw ⟨cP.blind, va_recv C.2.2.2.2.2.1 hP hc he, fun U hU hW => ⟨rfl, by rw [hU], by rw [hU]; exact hP, va_K.moved hW.alike C.2.2.2.2.2.1, hD.weaken (fun _ _ _ _ => trivial)⟩⟩ rfl hn hl.1 rfl (lv_room hro) dg hf) hS (fun q _ h => hFc q h) hFc (fun r u t H1 locs1 ht hvm hw hB hz1 hk1 hS1 => ?_)
  obtain ⟨hP1, hK1, hD1⟩ := hB
  rw [ht] at hP1
  have hw : r = r0 := hw
  subst hw
  exact k H1 locs1 ls hP1 (hD1.weaken (fun _ q _ hA => hFc q.1 hA)) hS1 hl
theorem j_callSL (C : GC p s m args meth c cc nL own Ts D tys A) {y : MethodName} {wy : List Cond} {rm' : Room} {bytes : ByteArray} {maxL n index : Nat} {ret : Option FieldType} {As rest : List Value} {r0 : Int64} (hM : cL l y wy rm' D tys As [] [] r0 0 0) (cw : CallB R s args own index y bytes maxL ret wy rm' 0 0 n ∧ (Cond.static y).before args s = true)
    (dg : decode cc pc = .ok (.invokestatic index, 3)) (hn : As.length = n) (hst : st = As.reverse ++ rest) (hro : (rest.map fun v => v.category).sum ≤ 8) (hf : cells ≤ R.cells ∧ slots ≤ R.slots)
    (k : J p l e R s m args below meth c nL D A cells slots Q ws lv (pc + 3) (.long r0 :: rest)) : J p l e R s m args below meth c nL D A cells slots Q ws lv pc st := by
  subst hst
  intro H locs ls hP hD hS hl
  have hFc : ∀ q, va_A [] H.size q → A q := fun q h => by
    rcases h with ⟨k, e, h⟩ | h
    · simp at h
    · exact C.2.2.2.2.2.2.1 q (Nat.le_trans hS.1 h)
  refine va_calll (va_runS (As := As) (rest := rest) ⟨C.1, C.2.1, C.2.2.1, C.2.2.2.1, C.2.2.2.2.1⟩ (hM H.size) cw ⟨cP.blind, fun U hU hW => ⟨rfl, by rw [hU], fun k q h => by simp at h, va_K.moved hW.alike C.2.2.2.2.2.1, ⟨fun i j p q h => by simp at h, fun k q h => by simp at h⟩⟩⟩ rfl hn hl.1 rfl (lv_room hro) dg hf) hS (fun q _ h => hFc q h) hFc (fun r u t H1 locs1 ht hvm hw hB hz1 hk1 hS1 => ?_)
  have hw : r = r0 := hw
  subst hw
  have hP1 : va_P D vwCl ws H1 := hP.kept (fun k q hq => hk1 q.1 ((hP k q hq).lt) (fun h => by
    rcases h with ⟨k, e, h⟩ | h
    · simp at h
    · exact absurd ((hP k q hq).lt) (Nat.not_lt.mpr h)))
  exact k H1 locs1 ls hP1 hD hS1 hl
theorem j_dret (C : GC p s m args meth c cc nL own Ts D tys A) (hr : meth.sig.returnType = some .double) {w1 : va_W} {r0 v : UInt64} {mc ms : Nat} (dg : decode cc pc = .ok (.dreturn, 1)) (hv : v = r0) (hw : ws = w1) (hc : cells ≤ mc) (hs : slots ≤ ms) : J p l e R s m args below meth c nL D A cells slots (MQ below (qD D tys A w1 r0) args s mc ms A) ws lv pc [.double v] := by
  subst hv; subst hw
  intro H locs ls hP hD hS hl
  have hlocks : meth.locks = false := C.2.2.2.2.2.2.2
  refine W.widen hc hs ?_
  exact W.dret C.1 C.2.1 hr (fun t ht hW => ⟨⟨_, (), rfl, rfl, by rw [ht]; exact hP, va_K.moved hW.alike C.2.2.2.2.2.1, hD⟩, hS.F ht⟩) hS.2.2 dg hlocks
theorem j_callD (C : GC p s m args meth c cc nL own Ts D tys A) {y : MethodName} {wy : List Cond} {rm' : Room} {bytes : ByteArray} {maxL n index mc ms h : Nat} {ret : Option FieldType} {RX : String} {As rest : List Value} {w1 : va_W} {r0 : UInt64} (hM : cD l y wy rm' D tys (.ref h :: As) ws w1 r0 mc ms) (cw : CallW R s args own RX index y bytes maxL ret wy rm' mc ms n)
    (q0 : Nat) {ci : Nat} {fs : List Value} {q : vw_C} (hc : vwCl[ci]? = some q) (he : ws[q0]? = some (h, .inr (ci, fs))) (hq : q.1 = RX) (dg : decode cc pc = .ok (.invokevirtual index, 3)) (hn : As.length = n) (hst : st = As.reverse ++ .ref h :: rest) (hro : (rest.map fun v => v.category).sum ≤ 8) (hf : cells + mc ≤ R.cells ∧ slots + ms ≤ R.slots)
    (k : J p l e R s m args below meth c nL D A (cells + mc) (slots + ms) Q w1 lv (pc + 3) (.double r0 :: rest)) : J p l e R s m args below meth c nL D A cells slots Q ws lv pc st := by
  subst hst; subst hq
  intro H locs ls hP hD hS hl
  have hFc := free_all hD hS C.2.2.2.2.2.2.1
  refine va_calld (va_runV (As := As) (rest := rest) ⟨C.1, C.2.1, C.2.2.1, C.2.2.2.1, C.2.2.2.2.1⟩ (hM H.size) cw ⟨cP.blind, va_recv C.2.2.2.2.2.1 hP hc he, fun U hU hW => ⟨rfl, by rw [hU], by rw [hU]; exact hP, va_K.moved hW.alike C.2.2.2.2.2.1, hD.weaken (fun _ _ _ _ => trivial)⟩⟩ rfl hn hl.1 rfl (lv_room hro) dg hf) hS (fun q _ h => hFc q h) hFc (fun r u t H1 locs1 ht hvm hw hB hz1 hk1 hS1 => ?_)
  obtain ⟨hP1, hK1, hD1⟩ := hB
  rw [ht] at hP1
  have hw : r = r0 := hw
  subst hw
  exact k H1 locs1 ls hP1 (hD1.weaken (fun _ q _ hA => hFc q.1 hA)) hS1 hl
theorem j_callSD (C : GC p s m args meth c cc nL own Ts D tys A) {y : MethodName} {wy : List Cond} {rm' : Room} {bytes : ByteArray} {maxL n index : Nat} {ret : Option FieldType} {As rest : List Value} {r0 : UInt64} (hM : cD l y wy rm' D tys As [] [] r0 0 0) (cw : CallB R s args own index y bytes maxL ret wy rm' 0 0 n ∧ (Cond.static y).before args s = true)
    (dg : decode cc pc = .ok (.invokestatic index, 3)) (hn : As.length = n) (hst : st = As.reverse ++ rest) (hro : (rest.map fun v => v.category).sum ≤ 8) (hf : cells ≤ R.cells ∧ slots ≤ R.slots)
    (k : J p l e R s m args below meth c nL D A cells slots Q ws lv (pc + 3) (.double r0 :: rest)) : J p l e R s m args below meth c nL D A cells slots Q ws lv pc st := by
  subst hst
  intro H locs ls hP hD hS hl
  have hFc : ∀ q, va_A [] H.size q → A q := fun q h => by
    rcases h with ⟨k, e, h⟩ | h
    · simp at h
    · exact C.2.2.2.2.2.2.1 q (Nat.le_trans hS.1 h)
  refine va_calld (va_runS (As := As) (rest := rest) ⟨C.1, C.2.1, C.2.2.1, C.2.2.2.1, C.2.2.2.2.1⟩ (hM H.size) cw ⟨cP.blind, fun U hU hW => ⟨rfl, by rw [hU], fun k q h => by simp at h, va_K.moved hW.alike C.2.2.2.2.2.1, ⟨fun i j p q h => by simp at h, fun k q h => by simp at h⟩⟩⟩ rfl hn hl.1 rfl (lv_room hro) dg hf) hS (fun q _ h => hFc q h) hFc (fun r u t H1 locs1 ht hvm hw hB hz1 hk1 hS1 => ?_)
  have hw : r = r0 := hw
  subst hw
  have hP1 : va_P D vwCl ws H1 := hP.kept (fun k q hq => hk1 q.1 ((hP k q hq).lt) (fun h => by
    rcases h with ⟨k, e, h⟩ | h
    · simp at h
    · exact absurd ((hP k q hq).lt) (Nat.not_lt.mpr h)))
  exact k H1 locs1 ls hP1 hD hS1 hl
theorem j_vret (C : GC p s m args meth c cc nL own Ts D tys A) (hr : meth.sig.returnType = none) {w1 : va_W} {mc ms : Nat} (dg : decode cc pc = .ok (.return_, 1)) (hw : ws = w1) (hc : cells ≤ mc) (hs : slots ≤ ms) : J p l e R s m args below meth c nL D A cells slots (MQ below (qV D tys A w1) args s mc ms A) ws lv pc [] := by
  subst hw
  intro H locs ls hP hD hS hl
  have hlocks : meth.locks = false := C.2.2.2.2.2.2.2
  refine W.widen hc hs ?_
  exact W.vret C.1 C.2.1 hr (fun t ht hW => ⟨⟨(), rfl, trivial, by rw [ht]; exact hP, va_K.moved hW.alike C.2.2.2.2.2.1, hD⟩, hS.F ht⟩) hS.2.2 dg hlocks
theorem j_callV (C : GC p s m args meth c cc nL own Ts D tys A) {y : MethodName} {wy : List Cond} {rm' : Room} {bytes : ByteArray} {maxL n index mc ms h : Nat} {ret : Option FieldType} {RX : String} {As rest : List Value} {w1 : va_W}  (hM : cV l y wy rm' D tys (.ref h :: As) ws w1  mc ms) (cw : CallW R s args own RX index y bytes maxL ret wy rm' mc ms n)
    (q0 : Nat) {ci : Nat} {fs : List Value} {q : vw_C} (hc : vwCl[ci]? = some q) (he : ws[q0]? = some (h, .inr (ci, fs))) (hq : q.1 = RX) (dg : decode cc pc = .ok (.invokevirtual index, 3)) (hn : As.length = n) (hst : st = As.reverse ++ .ref h :: rest) (hro : (rest.map fun v => v.category).sum ≤ 8) (hf : cells + mc ≤ R.cells ∧ slots + ms ≤ R.slots)
    (k : J p l e R s m args below meth c nL D A (cells + mc) (slots + ms) Q w1 lv (pc + 3) rest) : J p l e R s m args below meth c nL D A cells slots Q ws lv pc st := by
  subst hst; subst hq
  intro H locs ls hP hD hS hl
  have hFc := free_all hD hS C.2.2.2.2.2.2.1
  refine va_callv (va_runV (As := As) (rest := rest) ⟨C.1, C.2.1, C.2.2.1, C.2.2.2.1, C.2.2.2.2.1⟩ (hM H.size) cw ⟨cP.blind, va_recv C.2.2.2.2.2.1 hP hc he, fun U hU hW => ⟨rfl, by rw [hU], by rw [hU]; exact hP, va_K.moved hW.alike C.2.2.2.2.2.1, hD.weaken (fun _ _ _ _ => trivial)⟩⟩ rfl hn hl.1 rfl (lv_room hro) dg hf) hS (fun q _ h => hFc q h) hFc (fun u t H1 locs1 ht hvm hw hB hz1 hk1 hS1 => ?_)
  obtain ⟨hP1, hK1, hD1⟩ := hB
  rw [ht] at hP1
  exact k H1 locs1 ls hP1 (hD1.weaken (fun _ q _ hA => hFc q.1 hA)) hS1 hl
theorem j_callSV (C : GC p s m args meth c cc nL own Ts D tys A) {y : MethodName} {wy : List Cond} {rm' : Room} {bytes : ByteArray} {maxL n index : Nat} {ret : Option FieldType} {As rest : List Value}  (hM : cV l y wy rm' D tys As [] []  0 0) (cw : CallB R s args own index y bytes maxL ret wy rm' 0 0 n ∧ (Cond.static y).before args s = true)
    (dg : decode cc pc = .ok (.invokestatic index, 3)) (hn : As.length = n) (hst : st = As.reverse ++ rest) (hro : (rest.map fun v => v.category).sum ≤ 8) (hf : cells ≤ R.cells ∧ slots ≤ R.slots)
    (k : J p l e R s m args below meth c nL D A cells slots Q ws lv (pc + 3) rest) : J p l e R s m args below meth c nL D A cells slots Q ws lv pc st := by
  subst hst
  intro H locs ls hP hD hS hl
  have hFc : ∀ q, va_A [] H.size q → A q := fun q h => by
    rcases h with ⟨k, e, h⟩ | h
    · simp at h
    · exact C.2.2.2.2.2.2.1 q (Nat.le_trans hS.1 h)
  refine va_callv (va_runS (As := As) (rest := rest) ⟨C.1, C.2.1, C.2.2.1, C.2.2.2.1, C.2.2.2.2.1⟩ (hM H.size) cw ⟨cP.blind, fun U hU hW => ⟨rfl, by rw [hU], fun k q h => by simp at h, va_K.moved hW.alike C.2.2.2.2.2.1, ⟨fun i j p q h => by simp at h, fun k q h => by simp at h⟩⟩⟩ rfl hn hl.1 rfl (lv_room hro) dg hf) hS (fun q _ h => hFc q h) hFc (fun u t H1 locs1 ht hvm hw hB hz1 hk1 hS1 => ?_)
  have hP1 : va_P D vwCl ws H1 := hP.kept (fun k q hq => hk1 q.1 ((hP k q hq).lt) (fun h => by
    rcases h with ⟨k, e, h⟩ | h
    · simp at h
    · exact absurd ((hP k q hq).lt) (Nat.not_lt.mpr h)))
  exact k H1 locs1 ls hP1 hD hS1 hl
end JC
/-! ===== the worlds: GrainSilo's cells and GrainSiloModel's ===== -/
def wG (h : Nat → Nat) (c1 c2 : ClassId) (K Dm : Int → Int) (L : Int) (lo hi su db : Int → Int) (S dy li so sp : Int) (tu ah : Int → Int) (M : Int → Int → Int) : va_W :=
  [(h 0, .inr (0, [.ref (h 1), .ref (h 2), .int (zI L), .ref (h 3), .ref (h 4), .ref (h 5), .ref (h 6), .int (zI S), .int (zI dy), .int (zI li), .int (zI so), .int (zI sp), .ref (h 7), .ref (h 8), .ref (h 9)])),
   (h 1, .inl (c1, 12, .inl (zA K))), (h 2, .inl (c1, 12, .inl (zA Dm))), (h 3, .inl (c1, 16, .inl (zA lo))), (h 4, .inl (c1, 16, .inl (zA hi))), (h 5, .inl (c1, 16, .inl (zA su))), (h 6, .inl (c1, 16, .inl (zA db))), (h 7, .inl (c1, 12, .inl (zA tu))), (h 8, .inl (c1, 12, .inl (zA ah))),
   (h 9, .inl (c2, 13, .inr (.inr (.inr (.inr (fun j => some (h (10 + j)))))))),
   (h 10, .inl (c1, 13, .inl (zA (M 0)))), (h 11, .inl (c1, 13, .inl (zA (M 1)))), (h 12, .inl (c1, 13, .inl (zA (M 2)))), (h 13, .inl (c1, 13, .inl (zA (M 3)))), (h 14, .inl (c1, 13, .inl (zA (M 4)))), (h 15, .inl (c1, 13, .inl (zA (M 5)))), (h 16, .inl (c1, 13, .inl (zA (M 6)))), (h 17, .inl (c1, 13, .inl (zA (M 7)))), (h 18, .inl (c1, 13, .inl (zA (M 8)))), (h 19, .inl (c1, 13, .inl (zA (M 9)))), (h 20, .inl (c1, 13, .inl (zA (M 10)))), (h 21, .inl (c1, 13, .inl (zA (M 11)))), (h 22, .inl (c1, 13, .inl (zA (M 12))))]
def wM (h : Nat → Nat) (c1 : ClassId) (th L : Int) (K Dm : Int → Int) (S : Int) (lo hi su db : Int → Int) (dy li so sp : Int) (mo ke se : Int → Int) : va_W :=
  [(h 0, .inr (1, [.int (zI th), .int (zI L), .ref (h 1), .ref (h 2), .int (zI S), .ref (h 3), .ref (h 4), .ref (h 5), .ref (h 6), .int (zI dy), .int (zI li), .int (zI so), .int (zI sp), .ref (h 7), .ref (h 8), .ref (h 9)])),
   (h 1, .inl (c1, 12, .inl (zA K))), (h 2, .inl (c1, 12, .inl (zA Dm))), (h 3, .inl (c1, 16, .inl (zA lo))), (h 4, .inl (c1, 16, .inl (zA hi))), (h 5, .inl (c1, 16, .inl (zA su))), (h 6, .inl (c1, 16, .inl (zA db))), (h 7, .inl (c1, 169, .inl (zA mo))), (h 8, .inl (c1, 12, .inl (zA ke))), (h 9, .inl (c1, 12, .inl (zA se)))]
def tyS (c1 c2 _c3 : ClassId) : List (ClassId × FieldType) := [(c1, .int), (c2, .array .int)]
def upR (M : Int → Int → Int) (i : Int) (f : Int → Int) : Int → Int → Int := fun a => if a = i then f else M a
def up2 (M : Int → Int → Int) (i j v : Int) : Int → Int → Int := fun a b => if a = i ∧ b = j then v else M a b
theorem upR_up2 (M : Int → Int → Int) (i j v : Int) : upR M i (upZ (M i) j v) = up2 M i j v := by
  funext a b
  unfold upR up2 upZ
  by_cases h : a = i
  · subst h
    by_cases h2 : b = j <;> simp [h2]
  · simp [h]
theorem wG_row (h : Nat → Nat) (c1 c2 : ClassId) (K Dm : Int → Int) (L : Int) (lo hi su db : Int → Int) (S dy li so sp : Int) (tu ah : Int → Int) (M : Int → Int → Int) (i : Int) (h0 : 0 ≤ i) (h1 : i < 13) : (wG h c1 c2 K Dm L lo hi su db S dy li so sp tu ah M)[10 + i.toNat]? = some (h (10 + i.toNat), .inl (c1, 13, .inl (zA (M i)))) := by
  have h2 : i = 0 ∨ i = 1 ∨ i = 2 ∨ i = 3 ∨ i = 4 ∨ i = 5 ∨ i = 6 ∨ i = 7 ∨ i = 8 ∨ i = 9 ∨ i = 10 ∨ i = 11 ∨ i = 12 := by omega
  rcases h2 with rfl | rfl | rfl | rfl | rfl | rfl | rfl | rfl | rfl | rfl | rfl | rfl | rfl <;> rfl
theorem wG_setR (h : Nat → Nat) (c1 c2 : ClassId) (K Dm : Int → Int) (L : Int) (lo hi su db : Int → Int) (S dy li so sp : Int) (tu ah : Int → Int) (M : Int → Int → Int) (i : Int) (h0 : 0 ≤ i) (h1 : i < 13) (f : Int → Int) : (wG h c1 c2 K Dm L lo hi su db S dy li so sp tu ah M).set (10 + i.toNat) (h (10 + i.toNat), .inl (c1, 13, .inl (zA f))) = wG h c1 c2 K Dm L lo hi su db S dy li so sp tu ah (upR M i f) := by
  have h2 : i = 0 ∨ i = 1 ∨ i = 2 ∨ i = 3 ∨ i = 4 ∨ i = 5 ∨ i = 6 ∨ i = 7 ∨ i = 8 ∨ i = 9 ∨ i = 10 ∨ i = 11 ∨ i = 12 := by omega
  rcases h2 with rfl | rfl | rfl | rfl | rfl | rfl | rfl | rfl | rfl | rfl | rfl | rfl | rfl <;> first | rfl | simp [wG, upR]
theorem wG_set (h : Nat → Nat) (c1 c2 : ClassId) (K Dm : Int → Int) (L : Int) (lo hi su db : Int → Int) (S dy li so sp : Int) (tu ah : Int → Int) (M : Int → Int → Int) (i j v : Int) (h0 : 0 ≤ i) (h1 : i < 13) : (wG h c1 c2 K Dm L lo hi su db S dy li so sp tu ah M).set (10 + i.toNat) (h (10 + i.toNat), .inl (c1, 13, .inl (zA (upZ (M i) j v)))) = wG h c1 c2 K Dm L lo hi su db S dy li so sp tu ah (up2 M i j v) := by
  rw [wG_setR h c1 c2 K Dm L lo hi su db S dy li so sp tu ah M i h0 h1, upR_up2]
