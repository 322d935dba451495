/-! ===== contracts whose end is any of U ===== -/
def pE (D : va_G) (tys : List (ClassId × FieldType)) (av : List Value) (w : va_W) (E : State → Prop) (sz : Nat) : Array Value → State → Prop := va_Pc av (fun U => U.heap.size = sz ∧ va_P D vwCl w U.heap ∧ va_K D vwCl tys U ∧ va_D (fun _ => True) w ∧ E U)
def BE (E : State → Prop) : Prop := ∀ (a : Array Value) (U : State) (g : JFrame) (mk : MethodId), E U → E (U.calling g mk a)
theorem pE.blind {D : va_G} {tys : List (ClassId × FieldType)} {av : List Value} {w : va_W} {E : State → Prop} {sz : Nat} (hE : BE E) : FrameBlind (pE D tys av w E sz) := fun a U g mk q => by
  obtain ⟨q0, q1, qP, qK, qD, qe⟩ := q
  exact ⟨q0, q1, qP, va_K.moved (u := U) (U := U.calling g mk a) (Vm.Alike.refl U.vm) qK, qD, hE a U g mk qe⟩
/-- an array class over int[] has been made -/
def E1 : State → Prop := va_AOA .int
theorem E1.be : BE E1 := fun a U g mk h => va_AOA.moved (u := U) (U := U.calling g mk a) (Vm.Alike.refl U.vm) h
/-- .. and the script lies at b -/
def E2 (b n : Nat) (xs : Nat → Int32) : State → Prop := fun U => va_AOA .int U ∧ va_Nw (.methodLinkNest RL 71 yX1_init RL) U ∧ va_X b n xs U U.heap ∧ b < U.heap.size
theorem E2.be {b n : Nat} {xs : Nat → Int32} : BE (E2 b n xs) := fun a U g mk h => ⟨va_AOA.moved (u := U) (U := U.calling g mk a) (Vm.Alike.refl U.vm) h.1, va_Nw.same (u := U) (U := U.calling g mk a) rfl rfl h.2.1, va_X.moved (u := U) (U := U.calling g mk a) (Vm.Alike.refl U.vm) h.2.2.1, h.2.2.2⟩
def bE {S : Type} (D : va_G) (tys : List (ClassId × FieldType)) (A : Nat → Prop) (w1 : S → va_W) (u : S) (t : State) : Prop := va_P D vwCl (w1 u) t.heap ∧ va_K D vwCl tys t ∧ va_D A (w1 u)
def qEI {S : Type} (D : va_G) (tys : List (ClassId × FieldType)) (A : Nat → Prop) (I : S → Prop) (w1 : S → va_W) (r0 : S → Int32) : Array Value → State → Outcome → State → Prop := va_Qi (fun r u => r = r0 u ∧ I u) (bE D tys A w1) A
def qER {S : Type} (D : va_G) (tys : List (ClassId × FieldType)) (A : Nat → Prop) (I : S → Prop) (w1 : S → va_W) (ad : S → Nat) : Array Value → State → Outcome → State → Prop := va_Qr I (fun u a t => a = ad u ∧ bE D tys A w1 u t) A
def qEV {S : Type} (D : va_G) (tys : List (ClassId × FieldType)) (A : Nat → Prop) (I : S → Prop) (w1 : S → va_W) : Array Value → State → Outcome → State → Prop := va_Qv I (bE D tys A w1) A
def eI {S : Type} (l : Launch) (y : MethodName) (ws : List Cond) (rm : Room) (D : va_G) (tys : List (ClassId × FieldType)) (av : List Value) (w : va_W) (E : State → Prop) (I : S → Prop) (w1 : S → va_W) (r0 : S → Int32) (mc ms : Nat) : Prop := ∀ sz : Nat, Met l y ws rm (pE D tys av w E sz) (qEI D tys (va_A w sz) I w1 r0) mc ms (va_A w sz)
def eR {S : Type} (l : Launch) (y : MethodName) (ws : List Cond) (rm : Room) (D : va_G) (tys : List (ClassId × FieldType)) (av : List Value) (w : va_W) (E : State → Prop) (I : S → Prop) (w1 : S → va_W) (ad : S → Nat) (mc ms : Nat) : Prop := ∀ sz : Nat, Met l y ws rm (pE D tys av w E sz) (qER D tys (va_A w sz) I w1 ad) mc ms (va_A w sz)
def eV {S : Type} (l : Launch) (y : MethodName) (ws : List Cond) (rm : Room) (D : va_G) (tys : List (ClassId × FieldType)) (av : List Value) (w : va_W) (E : State → Prop) (I : S → Prop) (w1 : S → va_W) (mc ms : Nat) : Prop := ∀ sz : Nat, Met l y ws rm (pE D tys av w E sz) (qEV D tys (va_A w sz) I w1) mc ms (va_A w sz)
section EO
variable {S : Type} {l : Launch} {y : MethodName} {ws ws' : List Cond} {rm : Room} {cc : ByteArray} {maxL : Nat} {D : va_G} {tys : List (ClassId × FieldType)} {av : List Value} {w : va_W} {E : State → Prop} {I : S → Prop} {w1 : S → va_W} {mc ms : Nat}
theorem eI.of {r0 : S → Int32} {ret : FieldType} (hy : plainName y.cls = true) (hw : ws = Cond.code y cc maxL (some ret) :: ws') {lv : List (Nat × Value)} (ks : List Nat) (hlv : lv_pick (lv_args 0 av) ks = lv) (hav : (lg_sl av).length ≤ maxL)
    (body : ∀ (p : Program) (e : Env) (s : State) (m : MethodId) (args : Array Value) (below : List Frame) (meth : Method) (c : Code) (A : Nat → Prop), GC p s m args meth c cc maxL y.cls ws D tys A → meth.sig.returnType = some ret → E s → (∀ q, A q → va_A w s.heap.size q) → J p l e rm s m args below meth c maxL D A 0 0 (MQ below (qEI D tys A I w1 r0) args s mc ms A) w lv 0 []) : eI l y ws rm D tys av w E I w1 r0 mc ms := by
  intro sz
  refine Met.ofW (cc := cc) (maxL := maxL) (ret := some ret) hy hw ?_
  intro p e s m args below meth c s₁ B hml hv
  obtain ⟨rfl, hsz, hP, hK, hD0, hE⟩ := hv
  subst hsz
  have hD := hD0.self (sz := s.heap.size)
  have hl := lv_entry av (n := maxL) hav
  rw [lg_entry_eq]
  exact body p e s m av.toArray below meth c (va_A w s.heap.size) ⟨B.exec, B.bytes, hml, findClass_of_methodNamed B.named, atoms_spec (ws := ws) B.pre, hK, fun q h => Or.inr h, B.notSynchronized⟩ B.returns hE (fun q h => h) s.heap [] _ hP hD va_S.rf (lv_sub hl ks hlv)
theorem eR.of {ad : S → Nat} {ret : FieldType} (hy : plainName y.cls = true) (hw : ws = Cond.code y cc maxL (some ret) :: ws') {lv : List (Nat × Value)} (ks : List Nat) (hlv : lv_pick (lv_args 0 av) ks = lv) (hav : (lg_sl av).length ≤ maxL)
    (body : ∀ (p : Program) (e : Env) (s : State) (m : MethodId) (args : Array Value) (below : List Frame) (meth : Method) (c : Code) (A : Nat → Prop), GC p s m args meth c cc maxL y.cls ws D tys A → meth.sig.returnType = some ret → E s → (∀ q, A q → va_A w s.heap.size q) → J p l e rm s m args below meth c maxL D A 0 0 (MQ below (qER D tys A I w1 ad) args s mc ms A) w lv 0 []) : eR l y ws rm D tys av w E I w1 ad mc ms := by
  intro sz
  refine Met.ofW (cc := cc) (maxL := maxL) (ret := some ret) hy hw ?_
  intro p e s m args below meth c s₁ B hml hv
  obtain ⟨rfl, hsz, hP, hK, hD0, hE⟩ := hv
  subst hsz
  have hD := hD0.self (sz := s.heap.size)
  have hl := lv_entry av (n := maxL) hav
  rw [lg_entry_eq]
  exact body p e s m av.toArray below meth c (va_A w s.heap.size) ⟨B.exec, B.bytes, hml, findClass_of_methodNamed B.named, atoms_spec (ws := ws) B.pre, hK, fun q h => Or.inr h, B.notSynchronized⟩ B.returns hE (fun q h => h) s.heap [] _ hP hD va_S.rf (lv_sub hl ks hlv)
theorem eV.of (hy : plainName y.cls = true) (hw : ws = Cond.code y cc maxL none :: ws') {lv : List (Nat × Value)} (ks : List Nat) (hlv : lv_pick (lv_args 0 av) ks = lv) (hav : (lg_sl av).length ≤ maxL)
    (body : ∀ (p : Program) (e : Env) (s : State) (m : MethodId) (args : Array Value) (below : List Frame) (meth : Method) (c : Code) (A : Nat → Prop), GC p s m args meth c cc maxL y.cls ws D tys A → meth.sig.returnType = none → E s → (∀ q, A q → va_A w s.heap.size q) → J p l e rm s m args below meth c maxL D A 0 0 (MQ below (qEV D tys A I w1) args s mc ms A) w lv 0 []) : eV l y ws rm D tys av w E I w1 mc ms := by
  intro sz
  refine Met.ofW (cc := cc) (maxL := maxL) (ret := none) hy hw ?_
  intro p e s m args below meth c s₁ B hml hv
  obtain ⟨rfl, hsz, hP, hK, hD0, hE⟩ := hv
  subst hsz
  have hD := hD0.self (sz := s.heap.size)
  have hl := lv_entry av (n := maxL) hav
  rw [lg_entry_eq]
  exact body p e s m av.toArray below meth c (va_A w s.heap.size) ⟨B.exec, B.bytes, hml, findClass_of_methodNamed B.named, atoms_spec (ws := ws) B.pre, hK, fun q h => Or.inr h, B.notSynchronized⟩ B.returns hE (fun q h => h) s.heap [] _ hP hD va_S.rf (lv_sub hl ks hlv)
end EO
section EC
variable {S : Type} {p : Program} {l : Launch} {e : Env} {R : Room} {s : State} {m : MethodId} {args : Array Value} {below : List Frame} {meth : Method} {c : Code} {cc : ByteArray} {nL : Nat} {own : String} {Ts : List Cond} {D : va_G} {tys : List (ClassId × FieldType)} {A : Nat → Prop} {cells slots : Nat} {Q : State → Prop} {ws : va_W} {lv : List (Nat × Value)} {pc : Nat} {st : List Value} {E : State → Prop} {I : S → Prop} {w1 : S → va_W} {mc ms : Nat}
/-- E is so at every call -/
def HE (s : State) (A : Nat → Prop) (E : State → Prop) : Prop := ∀ (H : Heap) (locs : List Loc) (U : State), va_S A s.heap H locs → U.heap = H → s.WarmedH U.vm → E U
theorem E1.he (h : E1 s) : HE s A E1 := fun H locs U hS hU hW => va_AOA.moved hW.alike h
theorem E2.he {b n : Nat} {xs : Nat → Int32} (h : E2 b n xs s) (hA : ¬ A b) : HE s A (E2 b n xs) := fun H locs U hS hU hW => by
  have hb : H[b]? = s.heap[b]? := hS.2.1 b h.2.2.2 hA
  exact ⟨va_AOA.moved hW.alike h.1, va_Nw.warmM hW h.2.1, (h.2.2.1.kept (H1 := U.heap) (by rw [hU]; exact hb)).moved hW.alike, by rw [hU]; exact Nat.lt_of_lt_of_le h.2.2.2 hS.1⟩
theorem E2.e1 {b n : Nat} {xs : Nat → Int32} (h : E2 b n xs s) : E1 s := h.1
theorem j_iretE (C : GC p s m args meth c cc nL own Ts D tys A) (hr : meth.sig.returnType = some .int) {r0 : S → Int32} {v : Int32} (dg : decode cc pc = .ok (.ireturn, 1)) (u : S) (hI : I u) (hv : v = r0 u) (hw : ws = w1 u) (hc : cells ≤ mc) (hs : slots ≤ ms) : J p l e R s m args below meth c nL D A cells slots (MQ below (qEI D tys A I w1 r0) args s mc ms A) ws lv pc [.int v] := by
  subst hv; subst hw
  intro H locs ls hP hD hS hl
  have hlocks : meth.locks = false := C.2.2.2.2.2.2.2
  refine W.widen hc hs ?_
  exact W.iret C.1 C.2.1 hr (fun t ht hW => ⟨⟨_, u, rfl, ⟨rfl, hI⟩, by rw [ht]; exact hP, va_K.moved hW.alike C.2.2.2.2.2.1, hD⟩, hS.F ht⟩) hS.2.2 dg hlocks
theorem j_zretE (C : GC p s m args meth c cc nL own Ts D tys A) (hr : meth.sig.returnType = some .boolean) {r0 : S → Int32} {v : Int32} (dg : decode cc pc = .ok (.ireturn, 1)) (hn : narrow .boolean (.int v) = .int v) (u : S) (hI : I u) (hv : v = r0 u) (hw : ws = w1 u) (hc : cells ≤ mc) (hs : slots ≤ ms) : J p l e R s m args below meth c nL D A cells slots (MQ below (qEI D tys A I w1 r0) args s mc ms A) ws lv pc [.int v] := by
  subst hv; subst hw
  intro H locs ls hP hD hS hl
  have hlocks : meth.locks = false := C.2.2.2.2.2.2.2
  refine W.widen hc hs ?_
  exact W.zret C.1 C.2.1 hr hn (fun t ht hW => ⟨⟨_, u, rfl, ⟨rfl, hI⟩, by rw [ht]; exact hP, va_K.moved hW.alike C.2.2.2.2.2.1, hD⟩, hS.F ht⟩) hS.2.2 dg hlocks
theorem j_aretE (C : GC p s m args meth c cc nL own Ts D tys A) {ret : FieldType} (hr : meth.sig.returnType = some ret) (href : (∃ n, ret = .object n) ∨ ∃ t, ret = .array t) {ad : S → Nat} {v : Nat} (dg : decode cc pc = .ok (.areturn, 1)) (u : S) (hI : I u) (hv : v = ad u) (hw : ws = w1 u) (hc : cells ≤ mc) (hs : slots ≤ ms) : J p l e R s m args below meth c nL D A cells slots (MQ below (qER D tys A I w1 ad) args s mc ms A) ws lv pc [.ref v] := by
  subst hv; subst hw
  intro H locs ls hP hD hS hl
  have hlocks : meth.locks = false := C.2.2.2.2.2.2.2
  refine W.widen hc hs ?_
  exact W.aret C.1 C.2.1 hr href (Or.inr ⟨_, rfl⟩) (fun t ht hW => ⟨⟨u, _, rfl, hI, rfl, by rw [ht]; exact hP, va_K.moved hW.alike C.2.2.2.2.2.1, hD⟩, hS.F ht⟩) hS.2.2 dg hlocks
theorem j_vretE (C : GC p s m args meth c cc nL own Ts D tys A) (hr : meth.sig.returnType = none) (dg : decode cc pc = .ok (.return_, 1)) (u : S) (hI : I u) (hw : ws = w1 u) (hc : cells ≤ mc) (hs : slots ≤ ms) : J p l e R s m args below meth c nL D A cells slots (MQ below (qEV D tys A I w1) args s mc ms A) ws lv pc [] := by
  subst hw
  intro H locs ls hP hD hS hl
  have hlocks : meth.locks = false := C.2.2.2.2.2.2.2
  refine W.widen hc hs ?_
  exact W.vret C.1 C.2.1 hr (fun t ht hW => ⟨⟨u, rfl, hI, by rw [ht]; exact hP, va_K.moved hW.alike C.2.2.2.2.2.1, hD⟩, hS.F ht⟩) hS.2.2 dg hlocks
/-- what a callee of the world's part w0 leaves -/
theorem sub_l {w0 wr : va_W} {H : Heap} (hP : va_P D vwCl (w0 ++ wr) H) (hD : va_D A (w0 ++ wr)) : va_P D vwCl w0 H ∧ va_D A w0 := by
  have hlen : ∀ (i : Nat) (x : Nat × va_E), w0[i]? = some x → (w0 ++ wr)[i]? = some x := fun i x hi => by rw [List.getElem?_append_left (List.getElem?_eq_some_iff.mp hi).1]; exact hi
  exact ⟨fun i x hi => hP i x (hlen i x hi), ⟨fun i j x y hi hj hxy => hD.1 i j x y (hlen i x hi) (hlen j y hj) hxy, fun i x hi => hD.2 i x (hlen i x hi)⟩⟩
theorem j_callEI (C : GC p s m args meth c cc nL own Ts D tys A) (hBE : BE E) (hHE : HE s A E) {y : MethodName} {wy : List Cond} {rm' : Room} {bytes : ByteArray} {maxL n index h : Nat} {ret : Option FieldType} {RX : String} {As rest : List Value} {r0 : S → Int32} {w0 wr : va_W} (hM : eI l y wy rm' D tys (.ref h :: As) w0 E I w1 r0 mc ms) (cw : CallW R s args own RX index y bytes maxL ret wy rm' mc ms n)
    (q0 : Nat) {ci : Nat} {fs : List Value} {q : vw_C} (hc : vwCl[ci]? = some q) (he : w0[q0]? = some (h, .inr (ci, fs))) (hq : q.1 = RX) (dg : decode cc pc = .ok (.invokevirtual index, 3)) (hn : As.length = n) (hst : st = As.reverse ++ .ref h :: rest) (hro : (rest.map fun v => v.category).sum ≤ 8) (hf : cells + mc ≤ R.cells ∧ slots + ms ≤ R.slots)
    (k : ∀ u, I u → J p l e R s m args below meth c nL D A (cells + mc) (slots + ms) Q (w1 u ++ wr) lv (pc + 3) (.int (r0 u) :: rest)) : J p l e R s m args below meth c nL D A cells slots Q (w0 ++ wr) lv pc st := by
  subst hst; subst hq
  intro H locs ls hP hD hS hl
  obtain ⟨hPc, hDc⟩ := sub_l hP hD
  have hFc := free_all hDc hS C.2.2.2.2.2.2.1
  refine va_calli (va_runV (As := As) (rest := rest) ⟨C.1, C.2.1, C.2.2.1, C.2.2.2.1, C.2.2.2.2.1⟩ (hM H.size) cw ⟨pE.blind hBE, va_recv C.2.2.2.2.2.1 hPc hc he, fun U hU hW => ⟨rfl, by rw [hU], by rw [hU]; exact hPc, va_K.moved hW.alike C.2.2.2.2.2.1, hDc.weaken (fun _ _ _ _ => trivial), hHE H locs U hS hU hW⟩⟩ rfl hn hl.1 rfl (lv_room hro) dg hf) hS (fun q _ h => hFc q h) hFc (fun r u t H1 locs1 ht hvm hw hB hz1 hk1 hS1 => ?_)
  obtain ⟨hP1, hK1, hD1⟩ := hB
  rw [ht] at hP1
  obtain ⟨hw, hI⟩ := hw
  subst hw
  obtain ⟨hP2, hD2⟩ := frame_back (H0 := s.heap) (locs := locs) hP hD hFc hk1 hP1 hD1
  exact k u hI H1 locs1 ls hP2 hD2 hS1 hl
theorem j_callER (C : GC p s m args meth c cc nL own Ts D tys A) (hBE : BE E) (hHE : HE s A E) {y : MethodName} {wy : List Cond} {rm' : Room} {bytes : ByteArray} {maxL n index h : Nat} {ret : Option FieldType} {RX : String} {As rest : List Value} {ad : S → Nat} {w0 wr : va_W} (hM : eR l y wy rm' D tys (.ref h :: As) w0 E I w1 ad mc ms) (cw : CallW R s args own RX index y bytes maxL ret wy rm' mc ms n)
    (q0 : Nat) {ci : Nat} {fs : List Value} {q : vw_C} (hc : vwCl[ci]? = some q) (he : w0[q0]? = some (h, .inr (ci, fs))) (hq : q.1 = RX) (dg : decode cc pc = .ok (.invokevirtual index, 3)) (hn : As.length = n) (hst : st = As.reverse ++ .ref h :: rest) (hro : (rest.map fun v => v.category).sum ≤ 8) (hf : cells + mc ≤ R.cells ∧ slots + ms ≤ R.slots)
    (k : ∀ u, I u → J p l e R s m args below meth c nL D A (cells + mc) (slots + ms) Q (w1 u ++ wr) lv (pc + 3) (.ref (ad u) :: rest)) : J p l e R s m args below meth c nL D A cells slots Q (w0 ++ wr) lv pc st := by
  subst hst; subst hq
  intro H locs ls hP hD hS hl
  obtain ⟨hPc, hDc⟩ := sub_l hP hD
  have hFc := free_all hDc hS C.2.2.2.2.2.2.1
  refine va_callr (va_runV (As := As) (rest := rest) ⟨C.1, C.2.1, C.2.2.1, C.2.2.2.1, C.2.2.2.2.1⟩ (hM H.size) cw ⟨pE.blind hBE, va_recv C.2.2.2.2.2.1 hPc hc he, fun U hU hW => ⟨rfl, by rw [hU], by rw [hU]; exact hPc, va_K.moved hW.alike C.2.2.2.2.2.1, hDc.weaken (fun _ _ _ _ => trivial), hHE H locs U hS hU hW⟩⟩ rfl hn hl.1 rfl (lv_room hro) dg hf) hS (fun q _ h => hFc q h) hFc (fun u ra t H1 locs1 ht hvm hI hB hz1 hk1 hS1 => ?_)
  obtain ⟨hra, hP1, hK1, hD1⟩ := hB
  rw [ht] at hP1
  subst hra
  obtain ⟨hP2, hD2⟩ := frame_back (H0 := s.heap) (locs := locs) hP hD hFc hk1 hP1 hD1
  exact k u hI H1 locs1 ls hP2 hD2 hS1 hl
theorem j_callSER (C : GC p s m args meth c cc nL own Ts D tys A) (hBE : BE E) (hHE : HE s A E) {y : MethodName} {wy : List Cond} {rm' : Room} {bytes : ByteArray} {maxL n index : Nat} {ret : Option FieldType} {As rest : List Value} {ad : S → Nat} {w0 wr : va_W} (hM : eR l y wy rm' D tys As w0 E I w1 ad mc ms) (cw : CallB R s args own index y bytes maxL ret wy rm' mc ms n ∧ (Cond.static y).before args s = true)
    (dg : decode cc pc = .ok (.invokestatic index, 3)) (hn : As.length = n) (hst : st = As.reverse ++ rest) (hro : (rest.map fun v => v.category).sum ≤ 8) (hf : cells + mc ≤ R.cells ∧ slots + ms ≤ R.slots)
    (k : ∀ u, I u → J p l e R s m args below meth c nL D A (cells + mc) (slots + ms) Q (w1 u ++ wr) lv (pc + 3) (.ref (ad u) :: rest)) : J p l e R s m args below meth c nL D A cells slots Q (w0 ++ wr) lv pc st := by
  subst hst
  intro H locs ls hP hD hS hl
  obtain ⟨hPc, hDc⟩ := sub_l hP hD
  have hFc := free_all hDc hS C.2.2.2.2.2.2.1
  refine va_callr (va_runS (As := As) (rest := rest) ⟨C.1, C.2.1, C.2.2.1, C.2.2.2.1, C.2.2.2.2.1⟩ (hM H.size) cw ⟨pE.blind hBE, fun U hU hW => ⟨rfl, by rw [hU], by rw [hU]; exact hPc, va_K.moved hW.alike C.2.2.2.2.2.1, hDc.weaken (fun _ _ _ _ => trivial), hHE H locs U hS hU hW⟩⟩ rfl hn hl.1 rfl (lv_room hro) dg hf) hS (fun q _ h => hFc q h) hFc (fun u ra t H1 locs1 ht hvm hI hB hz1 hk1 hS1 => ?_)
  obtain ⟨hra, hP1, hK1, hD1⟩ := hB
  rw [ht] at hP1
  subst hra
  obtain ⟨hP2, hD2⟩ := frame_back (H0 := s.heap) (locs := locs) hP hD hFc hk1 hP1 hD1
  exact k u hI H1 locs1 ls hP2 hD2 hS1 hl
theorem j_callSEI (C : GC p s m args meth c cc nL own Ts D tys A) (hBE : BE E) (hHE : HE s A E) {y : MethodName} {wy : List Cond} {rm' : Room} {bytes : ByteArray} {maxL n index : Nat} {ret : Option FieldType} {As rest : List Value} {r0 : S → Int32} {w0 wr : va_W} (hM : eI l y wy rm' D tys As w0 E I w1 r0 mc ms) (cw : CallB R s args own index y bytes maxL ret wy rm' mc ms n ∧ (Cond.static y).before args s = true)
    (dg : decode cc pc = .ok (.invokestatic index, 3)) (hn : As.length = n) (hst : st = As.reverse ++ rest) (hro : (rest.map fun v => v.category).sum ≤ 8) (hf : cells + mc ≤ R.cells ∧ slots + ms ≤ R.slots)
    (k : ∀ u, I u → J p l e R s m args below meth c nL D A (cells + mc) (slots + ms) Q (w1 u ++ wr) lv (pc + 3) (.int (r0 u) :: rest)) : J p l e R s m args below meth c nL D A cells slots Q (w0 ++ wr) lv pc st := by
  subst hst
  intro H locs ls hP hD hS hl
  obtain ⟨hPc, hDc⟩ := sub_l hP hD
  have hFc := free_all hDc hS C.2.2.2.2.2.2.1
  refine va_calli (va_runS (As := As) (rest := rest) ⟨C.1, C.2.1, C.2.2.1, C.2.2.2.1, C.2.2.2.2.1⟩ (hM H.size) cw ⟨pE.blind hBE, fun U hU hW => ⟨rfl, by rw [hU], by rw [hU]; exact hPc, va_K.moved hW.alike C.2.2.2.2.2.1, hDc.weaken (fun _ _ _ _ => trivial), hHE H locs U hS hU hW⟩⟩ rfl hn hl.1 rfl (lv_room hro) dg hf) hS (fun q _ h => hFc q h) hFc (fun r u t H1 locs1 ht hvm hw hB hz1 hk1 hS1 => ?_)
  obtain ⟨hP1, hK1, hD1⟩ := hB
  rw [ht] at hP1
  obtain ⟨hw, hI⟩ := hw
  subst hw
  obtain ⟨hP2, hD2⟩ := frame_back (H0 := s.heap) (locs := locs) hP hD hFc hk1 hP1 hD1
  exact k u hI H1 locs1 ls hP2 hD2 hS1 hl
/-- a plain static contract (of no cell) whose callee changes nothing; a plain contract of a part of the world -/
theorem j_callPI (C : GC p s m args meth c cc nL own Ts D tys A) {y : MethodName} {wy : List Cond} {rm' : Room} {bytes : ByteArray} {maxL n index h : Nat} {ret : Option FieldType} {RX : String} {As rest : List Value} {r0 : Int32} {w0 wr v1 : va_W} (hM : cI l y wy rm' D tys (.ref h :: As) w0 v1 r0 mc ms) (cw : CallW R s args own RX index y bytes maxL ret wy rm' mc ms n)
    (q0 : Nat) {ci : Nat} {fs : List Value} {q : vw_C} (hc : vwCl[ci]? = some q) (he : w0[q0]? = some (h, .inr (ci, fs))) (hq : q.1 = RX) (dg : decode cc pc = .ok (.invokevirtual index, 3)) (hn : As.length = n) (hst : st = As.reverse ++ .ref h :: rest) (hro : (rest.map fun v => v.category).sum ≤ 8) (hf : cells + mc ≤ R.cells ∧ slots + ms ≤ R.slots)
    (k : J p l e R s m args below meth c nL D A (cells + mc) (slots + ms) Q (v1 ++ wr) lv (pc + 3) (.int r0 :: rest)) : J p l e R s m args below meth c nL D A cells slots Q (w0 ++ wr) lv pc st := by
  subst hst; subst hq
  intro H locs ls hP hD hS hl
  obtain ⟨hPc, hDc⟩ := sub_l hP hD
  have hFc := free_all hDc hS C.2.2.2.2.2.2.1
  refine va_calli (va_runV (As := As) (rest := rest) ⟨C.1, C.2.1, C.2.2.1, C.2.2.2.1, C.2.2.2.2.1⟩ (hM H.size) cw ⟨cP.blind, va_recv C.2.2.2.2.2.1 hPc hc he, fun U hU hW => ⟨rfl, by rw [hU], by rw [hU]; exact hPc, va_K.moved hW.alike C.2.2.2.2.2.1, hDc.weaken (fun _ _ _ _ => trivial)⟩⟩ rfl hn hl.1 rfl (lv_room hro) dg hf) hS (fun q _ h => hFc q h) hFc (fun r u t H1 locs1 ht hvm hw hB hz1 hk1 hS1 => ?_)
  obtain ⟨hP1, hK1, hD1⟩ := hB
  rw [ht] at hP1
  have hw : r = r0 := hw
  subst hw
  obtain ⟨hP2, hD2⟩ := frame_back (H0 := s.heap) (locs := locs) hP hD hFc hk1 hP1 hD1
  exact k H1 locs1 ls hP2 hD2 hS1 hl
theorem j_callPL (C : GC p s m args meth c cc nL own Ts D tys A) {y : MethodName} {wy : List Cond} {rm' : Room} {bytes : ByteArray} {maxL n index h : Nat} {ret : Option FieldType} {RX : String} {As rest : List Value} {r0 : Int64} {w0 wr v1 : va_W} (hM : cL l y wy rm' D tys (.ref h :: As) w0 v1 r0 mc ms) (cw : CallW R s args own RX index y bytes maxL ret wy rm' mc ms n)
    (q0 : Nat) {ci : Nat} {fs : List Value} {q : vw_C} (hc : vwCl[ci]? = some q) (he : w0[q0]? = some (h, .inr (ci, fs))) (hq : q.1 = RX) (dg : decode cc pc = .ok (.invokevirtual index, 3)) (hn : As.length = n) (hst : st = As.reverse ++ .ref h :: rest) (hro : (rest.map fun v => v.category).sum ≤ 8) (hf : cells + mc ≤ R.cells ∧ slots + ms ≤ R.slots)
    (k : J p l e R s m args below meth c nL D A (cells + mc) (slots + ms) Q (v1 ++ wr) lv (pc + 3) (.long r0 :: rest)) : J p l e R s m args below meth c nL D A cells slots Q (w0 ++ wr) lv pc st := by
  subst hst; subst hq
  intro H locs ls hP hD hS hl
  obtain ⟨hPc, hDc⟩ := sub_l hP hD
  have hFc := free_all hDc hS C.2.2.2.2.2.2.1
  refine va_calll (va_runV (As := As) (rest := rest) ⟨C.1, C.2.1, C.2.2.1, C.2.2.2.1, C.2.2.2.2.1⟩ (hM H.size) cw ⟨cP.blind, va_recv C.2.2.2.2.2.1 hPc hc he, fun U hU hW => ⟨rfl, by rw [hU], by rw [hU]; exact hPc, va_K.moved hW.alike C.2.2.2.2.2.1, hDc.weaken (fun _ _ _ _ => trivial)⟩⟩ rfl hn hl.1 rfl (lv_room hro) dg hf) hS (fun q _ h => hFc q h) hFc (fun r u t H1 locs1 ht hvm hw hB hz1 hk1 hS1 => ?_)
  obtain ⟨hP1, hK1, hD1⟩ := hB
  rw [ht] at hP1
  have hw : r = r0 := hw
  subst hw
  obtain ⟨hP2, hD2⟩ := frame_back (H0 := s.heap) (locs := locs) hP hD hFc hk1 hP1 hD1
  exact k H1 locs1 ls hP2 hD2 hS1 hl
theorem j_callPD (C : GC p s m args meth c cc nL own Ts D tys A) {y : MethodName} {wy : List Cond} {rm' : Room} {bytes : ByteArray} {maxL n index h : Nat} {ret : Option FieldType} {RX : String} {As rest : List Value} {r0 : UInt64} {w0 wr v1 : va_W} (hM : cD l y wy rm' D tys (.ref h :: As) w0 v1 r0 mc ms) (cw : CallW R s args own RX index y bytes maxL ret wy rm' mc ms n)
    (q0 : Nat) {ci : Nat} {fs : List Value} {q : vw_C} (hc : vwCl[ci]? = some q) (he : w0[q0]? = some (h, .inr (ci, fs))) (hq : q.1 = RX) (dg : decode cc pc = .ok (.invokevirtual index, 3)) (hn : As.length = n) (hst : st = As.reverse ++ .ref h :: rest) (hro : (rest.map fun v => v.category).sum ≤ 8) (hf : cells + mc ≤ R.cells ∧ slots + ms ≤ R.slots)
    (k : J p l e R s m args below meth c nL D A (cells + mc) (slots + ms) Q (v1 ++ wr) lv (pc + 3) (.double r0 :: rest)) : J p l e R s m args below meth c nL D A cells slots Q (w0 ++ wr) lv pc st := by
  subst hst; subst hq
  intro H locs ls hP hD hS hl
  obtain ⟨hPc, hDc⟩ := sub_l hP hD
  have hFc := free_all hDc hS C.2.2.2.2.2.2.1
  refine va_calld (va_runV (As := As) (rest := rest) ⟨C.1, C.2.1, C.2.2.1, C.2.2.2.1, C.2.2.2.2.1⟩ (hM H.size) cw ⟨cP.blind, va_recv C.2.2.2.2.2.1 hPc hc he, fun U hU hW => ⟨rfl, by rw [hU], by rw [hU]; exact hPc, va_K.moved hW.alike C.2.2.2.2.2.1, hDc.weaken (fun _ _ _ _ => trivial)⟩⟩ rfl hn hl.1 rfl (lv_room hro) dg hf) hS (fun q _ h => hFc q h) hFc (fun r u t H1 locs1 ht hvm hw hB hz1 hk1 hS1 => ?_)
  obtain ⟨hP1, hK1, hD1⟩ := hB
  rw [ht] at hP1
  have hw : r = r0 := hw
  subst hw
  obtain ⟨hP2, hD2⟩ := frame_back (H0 := s.heap) (locs := locs) hP hD hFc hk1 hP1 hD1
  exact k H1 locs1 ls hP2 hD2 hS1 hl
/-- the private constructor of a nest mate -/
theorem j_callN71 (C : GC p s m args meth c cc nL RL Ts D tys A) (hNw : va_Nw (.methodLinkNest RL 71 yX1_init RL) s) (hBE : BE E) (hHE : HE s A E) {wy : List Cond} {rm' : Room} {bytes : ByteArray} {maxL h : Nat} {As rest : List Value} {w0 wr : va_W} (hM : eV l yX1_init wy rm' D tys (.ref h :: As) w0 E I w1 mc ms) (cw : va_CN R s args RL 71 yX1_init RL bytes maxL none wy rm' mc ms 0 ∧ yX1_init.name = "<init>" ∧ (Cond.instanceMethod yX1_init).before args s = true)
    (dg : decode cc pc = .ok (.invokespecial 71, 3)) (hn : As.length = 0) (hst : st = As.reverse ++ .ref h :: rest) (hro : (rest.map fun v => v.category).sum ≤ 8) (hf : cells + mc ≤ R.cells ∧ slots + ms ≤ R.slots)
    (k : ∀ u, I u → J p l e R s m args below meth c nL D A (cells + mc) (slots + ms) Q (w1 u ++ wr) lv (pc + 3) rest) : J p l e R s m args below meth c nL D A cells slots Q (w0 ++ wr) lv pc st := by
  subst hst
  intro H locs ls hP hD hS hl
  obtain ⟨hPc, hDc⟩ := sub_l hP hD
  have hFc := free_all hDc hS C.2.2.2.2.2.2.1
  refine va_callv (va_runIN (As := As) (rest := rest) ⟨C.1, C.2.1, C.2.2.1, C.2.2.2.1, C.2.2.2.2.1⟩ (hM H.size) cw ⟨pE.blind hBE, fun U hU hW => ⟨rfl, by rw [hU], by rw [hU]; exact hPc, va_K.moved hW.alike C.2.2.2.2.2.1, hDc.weaken (fun _ _ _ _ => trivial), hHE H locs U hS hU hW⟩⟩ rfl hn hl.1 rfl (lv_room hro) dg hf) hS (fun q _ h => hFc q h) hFc (fun u t H1 locs1 ht hvm hI hB hz1 hk1 hS1 => ?_)
  obtain ⟨hP1, hK1, hD1⟩ := hB
  rw [ht] at hP1
  obtain ⟨hP2, hD2⟩ := frame_back (H0 := s.heap) (locs := locs) hP hD hFc hk1 hP1 hD1
  exact k u hI H1 locs1 ls hP2 hD2 hS1 hl
/-- the script -/
theorem j_sld (C : GC p s m args meth c cc nL own Ts D tys A) {b n : Nat} {xs : Nat → Int32} (hX : va_X b n xs s s.heap) (hb : b < s.heap.size) (hA : ¬ A b) {i : Int} (h0 : 0 ≤ i) (h1 : i < (n : Int)) (hn : n < 2147483648) (dg : decode cc pc = .ok (.iaload, 1))
    (k : J p l e R s m args below meth c nL D A cells slots Q ws lv (pc + 1) (.int (zI (xs i.toNat).toInt) :: st)) : J p l e R s m args below meth c nL D A cells slots Q ws lv pc (.int (zI i) :: .ref b :: st) := by
  intro H locs ls hP hD hS hl
  refine va_sld C.1 C.2.1 hX hb hA hS (zI_in h0 h1 hn) dg ?_
  obtain ⟨j, rfl⟩ := Int.eq_ofNat_of_zero_le h0
  have e : (zI (j : Int)).toNatClampNeg = j := by rw [zI_nI (by omega), nI_clamp (by omega)]
  rw [e, ← zI_of (xs j)]
  exact k H locs ls hP hD hS hl
theorem j_slen (C : GC p s m args meth c cc nL own Ts D tys A) {b n : Nat} {xs : Nat → Int32} (hX : va_X b n xs s s.heap) (hb : b < s.heap.size) (hA : ¬ A b) (hn : n < 2147483648) (dg : decode cc pc = .ok (.arraylength, 1))
    (k : J p l e R s m args below meth c nL D A cells slots Q ws lv (pc + 1) (.int (zI n) :: st)) : J p l e R s m args below meth c nL D A cells slots Q ws lv pc (.ref b :: st) := by
  intro H locs ls hP hD hS hl
  refine va_slen C.1 C.2.1 hX hb hA hS dg ?_
  rw [show Int32.ofNat n = zI (n : Int) from (zI_nI hn).symm]
  exact k H locs ls hP hD hS hl
theorem outer_eqN (cA : ClassId) (n : Nat) (r : Nat → Nat) : vp_cell cA (n, .inr (.inr (.inr (.inr (fun i => if i < n then some (r i) else none))))) = vp_cell cA (n, .inr (.inr (.inr (.inr (fun i => some (r i)))))) := by
  show arrV cA n (fun j => va_rf (if j < n then some (r j) else none)) = arrV cA n (fun j => va_rf (some (r j)))
  unfold arrV
  congr 2
  funext j
  show va_rf (if (j : Nat) < n then some (r j) else none) = va_rf (some (r j))
  rw [if_pos j.isLt]
theorem J.cell {ws' : va_W} (q0 : Nat) {a : Nat} {cA : ClassId} {x x' : vp_A} (h : ws[q0]? = some (a, .inl (cA, x))) (hw : ws.set q0 (a, .inl (cA, x')) = ws') (he : vp_cell cA x = vp_cell cA x') (k : J p l e R s m args below meth c nL D A cells slots Q ws' lv pc st) : J p l e R s m args below meth c nL D A cells slots Q ws lv pc st := by
  subst hw
  intro H locs ls hP hD hS hl
  have h3 : H[a]? = some (vp_cell cA x) := hP _ _ h
  exact k H locs ls (hP.set hD h (show H[a]? = some (vp_cell cA x') by rw [h3, he]) (fun _ _ => rfl)) (hD.set h) hS hl
/-- new int[n][n] -/
theorem j_mna (C : GC p s m args meth c cc nL own Ts D tys A) {index : Nat} (hclink : (Cond.classLink own index "[[I").before args s = true) (hover : va_AOA .int s) (harr : (Cond.arrayClass .int).before args s = true) {c1 c2 : ClassId} (i0 t0 : Nat) (hi : tys[i0]? = some (c1, .int)) (ht : tys[t0]? = some (c2, .array .int)) {z : Int} {n : Nat} (hz : z = n) (hn : n ≤ 12) (hc : cells + 13 ≤ R.cells) (hs : slots + 156 ≤ R.slots) (dg : decode cc pc = .ok (.multianewarray index 2, 4))
    (k : ∀ (q : Nat) (r : Nat → Nat), J p l e R s m args below meth c nL D A (cells + 13) (slots + 156) Q (ws ++ (gR c2 q n r ++ gB c1 r n n (fun _ _ => 0))) lv (pc + 4) (.ref q :: st)) : J p l e R s m args below meth c nL D A cells slots Q ws lv pc (.int (zI z) :: .int (zI z) :: st) := by
  subst hz
  intro H locs ls hP hD hS hl
  have hcy : s.vm.findClass (FieldType.array FieldType.int).toString = some c1 := (C.2.2.2.2.2.1.2 i0 _ hi).2
  have e0 : ws ++ va_pl [] (fun _ => .inl (c1, 0, .inl (fun _ => 0))) = ws := List.append_nil ws
  have hz0 : (fun _ : Nat => (0 : Int32)) = zA (fun _ => 0) := funext fun _ => zI_0.symm
  have hnn : n * n ≤ 144 := Nat.mul_le_mul hn hn
  rw [zI_nI (by omega)]
  refine va_mna (X := ws) (L := []) (f := fun _ => .inl (c1, 0, .inl (fun _ => 0))) (ty := .int) (cy := c1) (N' := n) (K' := n) (z := (n, .inl (fun _ => 0))) C.1 C.2.1 C.2.2.2.1 hclink hover harr hcy C.2.2.2.2.2.1 (by rw [e0]; exact hP) (by rw [e0]; exact hD) hS C.2.2.2.2.2.2.1 (nI_pos (by omega)) (nI_pos (by omega)) (nI_clamp (by omega)) (nI_clamp (by omega)) (by omega) (by show n * 4 ≤ _; omega) (by omega) rfl rfl (by omega) (by omega) (fun cx => arrV_new cx n (.int 0)) dg (fun q r cA H1 hr1 hr2 hK1 hP1 hD1 hS1 => ?_)
  have eA : c2 = cA := by
    have h1 : s.vm.findClass "[[I" = some c2 := (C.2.2.2.2.2.1.2 t0 _ ht).2
    have h2 : s.vm.findClass "[[I" = some cA := (hK1.2 tys.length (cA, .array .int) (by rw [List.getElem?_append_right (Nat.le_refl _), Nat.sub_self]; rfl)).2
    exact Option.some.inj (h1.symm.trans h2)
  subst eA
  have eW : (ws ++ [(q, .inl (c2, n, .inr (.inr (.inr (.inr (fun i => if i < n then some (r i) else none))))))]) ++ va_pl ([] ++ (List.range n).map r) (vr_up (fun _ => .inl (c1, 0, .inl (fun _ => 0))) ((List.range n).map r) (.inl (c1, n, .inl (fun _ => 0)))) = ws ++ ([(q, .inl (c2, n, .inr (.inr (.inr (.inr (fun i => if i < n then some (r i) else none))))))] ++ gB c1 r n n (fun _ _ => 0)) := by
    rw [← vr_rows (fun a _ h => absurd h List.not_mem_nil), List.append_assoc, hz0, List.map_map]
    rfl
  rw [eW] at hP1 hD1
  have K : J p l e R s m args below meth c nL D A (cells + 13) (slots + 156) Q (ws ++ ([(q, .inl (c2, n, .inr (.inr (.inr (.inr (fun i => if i < n then some (r i) else none))))))] ++ gB c1 r n n (fun _ _ => 0))) lv (pc + 4) (.ref q :: st) := J.cell (ws.length + 0) (At.r (At.l (A := [(q, .inl (c2, n, .inr (.inr (.inr (.inr (fun i => if i < n then some (r i) else none))))))]) (k := 0) rfl)) (Pu.r (Pu.l rfl rfl)) (outer_eqN c2 n r) (k q r)
  exact W.widen (by omega) (by omega) (K H1 locs ls hP1 hD1 hS1 hl)
/-- new int[n], of the class that is known -/
theorem j_newI (C : GC p s m args meth c cc nL own Ts D tys A) (harr : (Cond.arrayClass .int).before args s = true) {c1 : ClassId} (i0 : Nat) (hi : tys[i0]? = some (c1, .int)) {z : Int} {n : Nat} (hz : z = n) (hn : n < 1000000) (hc : cells + 1 ≤ R.cells) (hs : slots + n ≤ R.slots) (dg : decode cc pc = .ok (.newarray .int, 2))
    (k : ∀ q : Nat, J p l e R s m args below meth c nL D A (cells + 1) (slots + n) Q (ws ++ gA c1 q n (fun _ => 0)) lv (pc + 2) (.ref q :: st)) : J p l e R s m args below meth c nL D A cells slots Q ws lv pc (.int (zI z) :: st) := by
  refine j_newa C harr hz hn hc hs dg (fun q cA C1 => ?_)
  have eA : c1 = cA := by
    have h1 : s.vm.findClass "[I" = some c1 := (C.2.2.2.2.2.1.2 i0 _ hi).2
    have h2 : s.vm.findClass "[I" = some cA := (C1.2.2.2.2.2.1.2 tys.length (cA, .int) (by rw [List.getElem?_append_right (Nat.le_refl _), Nat.sub_self]; rfl)).2
    exact Option.some.inj (h1.symm.trans h2)
  subst eA
  exact k q
end EC
