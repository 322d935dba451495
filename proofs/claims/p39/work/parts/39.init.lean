/-! ===== constructors ===== -/
def hOf (l : List Nat) (r : Nat → Nat) : Nat → Nat := fun j => if j < 10 then l.getD j 0 else r (j - 10)
theorem hOf_r (l : List Nat) (r : Nat → Nat) (j : Nat) : hOf l r (10 + j) = r j := by
  unfold hOf
  rw [if_neg (by omega), show 10 + j - 10 = j by omega]
def z0 : Int → Int := fun _ => 0
def w0X0 (q0 : Nat) : va_W := [(q0, .inr (0, [.null, .null, .int (zI 0), .null, .null, .null, .null, .int (zI 0), .int (zI 0), .int (zI 0), .int (zI 0), .int (zI 0), .null, .null, .null]))]
def wG0 (h : Nat → Nat) (c1 c2 : ClassId) : va_W := wG h c1 c2 z0 z0 0 z0 z0 z0 z0 0 0 14 0 0 z0 z0 (fun _ _ => 0)
def bX0 (D : va_G) (q0 : Nat) (A : Nat → Prop) (t : State) : Prop := ∃ (h : Nat → Nat) (c1 c2 : ClassId), h 0 = q0 ∧ va_P D vwCl (wG0 h c1 c2) t.heap ∧ va_K D vwCl [(c1, .int), (c2, .array .int)] t ∧ va_D A (wG0 h c1 c2)
def qN (B : State → Prop) (A : Nat → Prop) : Array Value → State → Outcome → State → Prop := va_Qv (fun (_ : Unit) => True) (fun _ t => B t) A
def pN (D : va_G) (tys : List (ClassId × FieldType)) (av : List Value) (w : va_W) (sz : Nat) : Array Value → State → Prop := va_Pc av (fun U => U.heap.size = sz ∧ va_P D vwCl w U.heap ∧ va_K D vwCl tys U ∧ va_D (fun _ => True) w ∧ va_AOA .int U)
theorem pN.blind {D : va_G} {tys : List (ClassId × FieldType)} {av : List Value} {w : va_W} {sz : Nat} : FrameBlind (pN D tys av w sz) := fun a U g mk q => by
  obtain ⟨q0, q1, qP, qK, qD, qo⟩ := q
  exact ⟨q0, q1, qP, va_K.moved (u := U) (U := U.calling g mk a) (Vm.Alike.refl U.vm) qK, qD, va_AOA.moved (u := U) (U := U.calling g mk a) (Vm.Alike.refl U.vm) qo⟩
section JN
variable {p : Program} {l : Launch} {e : Env} {R : Room} {s : State} {m : MethodId} {args : Array Value} {below : List Frame} {meth : Method} {c : Code} {cc : ByteArray} {nL : Nat} {own : String} {Ts : List Cond} {D : va_G} {tys : List (ClassId × FieldType)} {A : Nat → Prop} {cells slots : Nat} {Q : State → Prop} {ws : va_W} {lv : List (Nat × Value)} {pc : Nat} {st : List Value}
theorem GC.subT (C : GC p s m args meth c cc nL own Ts D tys A) {tys' : List (ClassId × FieldType)} (ks : List Nat) (h : ks.filterMap (fun i => tys[i]?) = tys') : GC p s m args meth c cc nL own Ts D tys' A :=
  ⟨C.1, C.2.1, C.2.2.1, C.2.2.2.1, C.2.2.2.2.1, C.2.2.2.2.2.1.sub ks h, C.2.2.2.2.2.2⟩
theorem GC.ra (C : GC p s m args meth c cc nL own Ts D tys A) {i j : Nat} {x y : ClassId} (hi : tys[i]? = some (x, .int)) (hj : tys[j]? = some (y, .int)) : x = y := by
  have h1 : s.vm.findClass ("[" ++ FieldType.int.toString) = some x := (C.2.2.2.2.2.1.2 i _ hi).2
  have h2 : s.vm.findClass ("[" ++ FieldType.int.toString) = some y := (C.2.2.2.2.2.1.2 j _ hj).2
  exact Option.some.inj (h1.symm.trans h2)
theorem j_objinit (C : GC p s m args meth c cc nL own Ts D tys A) {idx a : Nat} (h1 : (Cond.methodLink own idx Lib.objectInit).before args s = true) (h2 : (Cond.instanceMethod Lib.objectInit).before args s = true) (h3 : (Cond.code Lib.objectInit ⟨#[0xb1]⟩ 1 none).before args s = true) (hf : 1 ≤ R.frames) (hlo : 12 ≤ R.locals) (dg : decode cc pc = .ok (.invokespecial idx, 3)) (hst : st = [])
    (k : J p l e R s m args below meth c nL D A cells slots Q ws lv (pc + 3) st) : J p l e R s m args below meth c nL D A cells slots Q ws lv pc (.ref a :: st) := by
  subst hst
  intro H locs ls hP hD hS hl
  refine W.objInit C.1 C.2.1 C.2.2.2.1 h1 h2 h3 rfl (by rw [C.2.2.1]; exact hl.1) rfl dg hf (by show 2 * 0 + 0 + 12 ≤ _; omega) ?_
  exact k H locs ls hP hD hS hl
theorem j_putF (C : GC p s m args meth c cc nL own Ts D tys A) (hin2 : meth.name = "<init>") {ref Cn : String} {T : u_T} {N ci index a : Nat} (hin : ∀ w ∈ u_ws Cn T N, w ∈ Ts) (ty0 : Nat → FieldType) (hty : ∀ k, k < N → parseFieldDescriptor (T k).2.2.1 = some (ty0 k)) (hnm : ∀ a, a < N → ∀ b, b < N → a ≠ b → (T a).2.1 ≠ (T b).2.1) (q0 : Nat) {fs : List Value} (he : ws[q0]? = some (a, .inr (ci, fs))) (hc : vwCl[ci]? = some (Cn, T, N)) (k : Nat) (hk : k < N) (hlink : (Cond.fieldLink own index ref (T k).2.1 (T k).2.2.1).before args s = true) (hsame : (T k).1 = ref) (hfin : (T k).2.2.2 = true) (hdecl : (T k).1 = own) {ty : FieldType} {v : Value} (hd : parseFieldDescriptor (T k).2.2.1 = some ty) (hn : narrow ty v = v) (hfit : fits ty v = true) (hl : k < fs.length) {ws' : va_W} (hw : ws.set q0 (a, .inr (ci, fs.set k v)) = ws') (dg : decode cc pc = .ok (.putfield index, 3))
    (kk : J p l e R s m args below meth c nL D A cells slots Q ws' lv (pc + 3) st) : J p l e R s m args below meth c nL D A cells slots Q ws lv pc (v :: .ref a :: st) := by
  subst hw
  exact fun H locs ls hP hD hS hlv => va_putF C.1 C.2.1 C.2.2.2.2.1 hin ty0 hty hnm C.2.2.2.1 C.2.2.2.2.2.1 hP hD hS q0 he hc k hk hlink (fun _ h9 => hsame ▸ h9) hfin hin2 hdecl hd hn hfit hl dg (fun H1 locs1 hP1 hD1 hS1 => kk H1 locs1 ls hP1 hD1 hS1 hlv)
theorem outer_eq (cA : ClassId) (r : Nat → Nat) : vp_cell cA (13, .inr (.inr (.inr (.inr (fun i => if i < 13 then some (r i) else none))))) = vp_cell cA (13, .inr (.inr (.inr (.inr (fun i => some (r i)))))) := by
  show arrV cA 13 (fun j => va_rf (if j < 13 then some (r j) else none)) = arrV cA 13 (fun j => va_rf (some (r j)))
  unfold arrV
  congr 2
  funext j
  show va_rf (if (j : Nat) < 13 then some (r j) else none) = va_rf (some (r j))
  rw [if_pos j.isLt]
theorem j_mna13 (C : GC p s m args meth c cc nL own Ts D tys A) {index : Nat} (hclink : (Cond.classLink own index "[[I").before args s = true) (hover : va_AOA .int s) (harr : (Cond.arrayClass .int).before args s = true) {c1 : ClassId} (t0 : Nat) (ht : tys[t0]? = some (c1, .int)) (hc : cells + 14 ≤ R.cells) (hs : slots + 182 ≤ R.slots) (dg : decode cc pc = .ok (.multianewarray index 2, 4))
    (k : ∀ (q : Nat) (r : Nat → Nat) (cA : ClassId), GC p s m args meth c cc nL own Ts D (tys ++ [(cA, .array .int)]) A → J p l e R s m args below meth c nL D A (cells + 14) (slots + 182) Q (ws ++ ((q, .inl (cA, 13, .inr (.inr (.inr (.inr (fun i => if i < 13 then some (r i) else none)))))) :: (List.range 13).map (fun j => (r j, .inl (c1, 13, .inl (zA (fun _ => 0))))))) lv (pc + 4) (.ref q :: st)) : J p l e R s m args below meth c nL D A cells slots Q ws lv pc (.int (zI 13) :: .int (zI 13) :: st) := by
  intro H locs ls hP hD hS hl
  have hcy : s.vm.findClass (FieldType.array FieldType.int).toString = some c1 := (C.2.2.2.2.2.1.2 t0 _ ht).2
  have hn : nI 13 = zI 13 := (zI_nI (by decide)).symm
  have e0 : ws ++ va_pl [] (fun _ => .inl (c1, 0, .inl (fun _ => 0))) = ws := List.append_nil ws
  have hz0 : (fun _ : Nat => (0 : Int32)) = zA (fun _ => 0) := funext fun _ => zI_0.symm
  refine va_mna (X := ws) (L := []) (f := fun _ => .inl (c1, 0, .inl (fun _ => 0))) (ty := .int) (cy := c1) (N' := 13) (K' := 13) (z := (13, .inl (fun _ => 0))) C.1 C.2.1 C.2.2.2.1 hclink hover harr hcy C.2.2.2.2.2.1 (by rw [e0]; exact hP) (by rw [e0]; exact hD) hS C.2.2.2.2.2.2.1 (by decide +kernel) (by decide +kernel) (by decide +kernel) (by decide +kernel) (by decide) (by decide) (by decide) (by decide) (by decide) (by omega) (by omega) (fun _ => rfl) dg (fun q r cA H1 hr1 hr2 hK1 hP1 hD1 hS1 => ?_)
  have eW : (ws ++ [(q, .inl (cA, 13, .inr (.inr (.inr (.inr (fun i => if i < 13 then some (r i) else none))))))]) ++ va_pl ([] ++ (List.range 13).map r) (vr_up (fun _ => .inl (c1, 0, .inl (fun _ => 0))) ((List.range 13).map r) (.inl (c1, 13, .inl (fun _ => 0)))) = ws ++ ((q, .inl (cA, 13, .inr (.inr (.inr (.inr (fun i => if i < 13 then some (r i) else none)))))) :: (List.range 13).map (fun j => (r j, .inl (c1, 13, .inl (zA (fun _ => 0)))))) := by
    rw [← vr_rows (fun a _ h => absurd h List.not_mem_nil), List.append_assoc, hz0, List.map_map]
    rfl
  rw [eW] at hP1 hD1
  exact k q r cA ⟨C.1, C.2.1, C.2.2.1, C.2.2.2.1, C.2.2.2.2.1, hK1, C.2.2.2.2.2.2⟩ H1 locs ls hP1 hD1 hS1 hl
theorem j_vretN (C : GC p s m args meth c cc nL own Ts D tys A) (hr : meth.sig.returnType = none) {B : State → Prop} {mc ms : Nat} (dg : decode cc pc = .ok (.return_, 1)) (hc : cells ≤ mc) (hs : slots ≤ ms) (hB : ∀ t : State, va_P D vwCl ws t.heap → va_K D vwCl tys t → va_D A ws → B t) : J p l e R s m args below meth c nL D A cells slots (MQ below (qN B A) args s mc ms A) ws lv pc [] := by
  intro H locs ls hP hD hS hl
  have hlocks : meth.locks = false := C.2.2.2.2.2.2.2
  refine W.widen hc hs ?_
  exact W.vret C.1 C.2.1 hr (fun t ht hW => ⟨⟨(), rfl, trivial, hB t (by rw [ht]; exact hP) (va_K.moved hW.alike C.2.2.2.2.2.1) hD⟩, hS.F ht⟩) hS.2.2 dg hlocks
end JN
set_option maxHeartbeats 4000000 in
set_option maxRecDepth 100000 in
theorem kX0_init (l : Launch) (D : va_G) (q0 : Nat) (sz : Nat) : Met l yX0_init wsX0_init ({ frames := 1, cells := 22, slots := 294, locals := 14 }) (pN D [] [.ref q0] (w0X0 q0) sz) (qN (bX0 D q0 (va_A (w0X0 q0) sz)) (va_A (w0X0 q0) sz)) 22 294 (va_A (w0X0 q0) sz) := by
  refine Met.ofW (cc := cX0_init) (maxL := 1) (ret := none) (by decide) rfl ?_
  intro p e s m args below meth c s₁ B hml hv
  obtain ⟨rfl, hsz, hP, hK, hD0, hover⟩ := hv
  subst hsz
  have hD := hD0.self (sz := s.heap.size)
  have hin2 : meth.name = "<init>" := (name_of_methodNamed B.named B.method).1
  have hl := lv_entry ([.ref q0]) (n := 1) (Nat.le_of_ble_eq_true rfl)
  rw [lg_entry_eq]
  generalize hAe : va_A (w0X0 q0) s.heap.size = A at hD ⊢
  have C : GC p s m ([Value.ref q0] : List Value).toArray meth c cX0_init 1 RX0 wsX0_init D [] A := ⟨B.exec, B.bytes, hml, findClass_of_methodNamed B.named, atoms_spec (ws := wsX0_init) B.pre, hK, fun q h => by rw [← hAe]; exact Or.inr h, B.notSynchronized⟩
  have hr := B.returns
  have hin : ∀ w ∈ wsX00, w ∈ wsX0_init := fun _ h => List.mem_cons_of_mem _ (List.mem_append_right _ h)
  suffices J0 : J p l e ({ frames := 1, cells := 22, slots := 294, locals := 14 }) s m ([Value.ref q0] : List Value).toArray below meth c 1 D A 0 0 (MQ below (qN (bX0 D q0 A) A) ([Value.ref q0] : List Value).toArray s 22 294 A) [(q0, .inr (0, [.null, .null, .int (zI 0), .null, .null, .null, .null, .int (zI 0), .int (zI 0), .int (zI 0), .int (zI 0), .int (zI 0), .null, .null, .null]))] [(0, .ref q0)] 0 [] from J0 s.heap [] _ hP hD va_S.rf hl
  refine j_aload_n (pc := 0) C dX0_init_0 0 rfl ?_
  refine j_objinit (pc := 1) C (C.w 1 rfl) (C.w 2 rfl) (C.w 3 rfl) (Nat.le_of_ble_eq_true rfl) (Nat.le_of_ble_eq_true rfl) dX0_init_1 rfl ?_
  refine j_aload_n (pc := 4) C dX0_init_4 0 rfl ?_
  refine j_bipush (pc := 5) C dX0_init_5 (by decide +kernel) ?_
  refine j_newa (pc := 7) C (n := 12) (C.w 4 rfl) rfl (by decide) (by decide) (by decide) dX0_init_7 (fun q1 c1 C => ?_)
  have C : GC p s m ([Value.ref q0] : List Value).toArray meth c cX0_init 1 RX0 wsX0_init D [(c1, .int)] A := C
  refine j_putF (pc := 9) C hin2 (ref := "GrainSilo") (T := TX0) (N := 15) (ws' := [(q0, .inr (0, [.ref q1, .null, .int (zI 0), .null, .null, .null, .null, .int (zI 0), .int (zI 0), .int (zI 0), .int (zI 0), .int (zI 0), .null, .null, .null])), (q1, .inl (c1, 12, .inl (zA (fun _ => 0))))]) hin tyX0 tyX0_ok nmX0 0 rfl rfl 0 (by decide) (C.w 5 rfl) rfl rfl rfl (ty := .array .int) (by decide +kernel) rfl rfl (Nat.le_of_ble_eq_true rfl) rfl dX0_init_9 ?_
  refine j_aload_n (pc := 12) C dX0_init_12 0 rfl ?_
  refine j_bipush (pc := 13) C dX0_init_13 (by decide +kernel) ?_
  refine j_newa (pc := 15) C (n := 12) (C.w 4 rfl) rfl (by decide) (by decide) (by decide) dX0_init_15 (fun q2 c9 C => ?_)
  obtain rfl : c1 = c9 := C.ra (i := 0) (j := 1) rfl rfl
  have C := C.subT (tys' := [(c1, .int)]) [0] rfl
  refine j_putF (pc := 17) C hin2 (ref := "GrainSilo") (T := TX0) (N := 15) (ws' := [(q0, .inr (0, [.ref q1, .ref q2, .int (zI 0), .null, .null, .null, .null, .int (zI 0), .int (zI 0), .int (zI 0), .int (zI 0), .int (zI 0), .null, .null, .null])), (q1, .inl (c1, 12, .inl (zA (fun _ => 0)))), (q2, .inl (c1, 12, .inl (zA (fun _ => 0))))]) hin tyX0 tyX0_ok nmX0 0 rfl rfl 1 (by decide) (C.w 6 rfl) rfl rfl rfl (ty := .array .int) (by decide +kernel) rfl rfl (Nat.le_of_ble_eq_true rfl) rfl dX0_init_17 ?_
  refine j_aload_n (pc := 20) C dX0_init_20 0 rfl ?_
  refine j_bipush (pc := 21) C dX0_init_21 (by decide +kernel) ?_
  refine j_newa (pc := 23) C (n := 16) (C.w 4 rfl) rfl (by decide) (by decide) (by decide) dX0_init_23 (fun q3 c9 C => ?_)
  obtain rfl : c1 = c9 := C.ra (i := 0) (j := 1) rfl rfl
  have C := C.subT (tys' := [(c1, .int)]) [0] rfl
  refine j_putF (pc := 25) C hin2 (ref := "GrainSilo") (T := TX0) (N := 15) (ws' := [(q0, .inr (0, [.ref q1, .ref q2, .int (zI 0), .ref q3, .null, .null, .null, .int (zI 0), .int (zI 0), .int (zI 0), .int (zI 0), .int (zI 0), .null, .null, .null])), (q1, .inl (c1, 12, .inl (zA (fun _ => 0)))), (q2, .inl (c1, 12, .inl (zA (fun _ => 0)))), (q3, .inl (c1, 16, .inl (zA (fun _ => 0))))]) hin tyX0 tyX0_ok nmX0 0 rfl rfl 3 (by decide) (C.w 7 rfl) rfl rfl rfl (ty := .array .int) (by decide +kernel) rfl rfl (Nat.le_of_ble_eq_true rfl) rfl dX0_init_25 ?_
  refine j_aload_n (pc := 28) C dX0_init_28 0 rfl ?_
  refine j_bipush (pc := 29) C dX0_init_29 (by decide +kernel) ?_
  refine j_newa (pc := 31) C (n := 16) (C.w 4 rfl) rfl (by decide) (by decide) (by decide) dX0_init_31 (fun q4 c9 C => ?_)
  obtain rfl : c1 = c9 := C.ra (i := 0) (j := 1) rfl rfl
  have C := C.subT (tys' := [(c1, .int)]) [0] rfl
  refine j_putF (pc := 33) C hin2 (ref := "GrainSilo") (T := TX0) (N := 15) (ws' := [(q0, .inr (0, [.ref q1, .ref q2, .int (zI 0), .ref q3, .ref q4, .null, .null, .int (zI 0), .int (zI 0), .int (zI 0), .int (zI 0), .int (zI 0), .null, .null, .null])), (q1, .inl (c1, 12, .inl (zA (fun _ => 0)))), (q2, .inl (c1, 12, .inl (zA (fun _ => 0)))), (q3, .inl (c1, 16, .inl (zA (fun _ => 0)))), (q4, .inl (c1, 16, .inl (zA (fun _ => 0))))]) hin tyX0 tyX0_ok nmX0 0 rfl rfl 4 (by decide) (C.w 8 rfl) rfl rfl rfl (ty := .array .int) (by decide +kernel) rfl rfl (Nat.le_of_ble_eq_true rfl) rfl dX0_init_33 ?_
  refine j_aload_n (pc := 36) C dX0_init_36 0 rfl ?_
  refine j_bipush (pc := 37) C dX0_init_37 (by decide +kernel) ?_
  refine j_newa (pc := 39) C (n := 16) (C.w 4 rfl) rfl (by decide) (by decide) (by decide) dX0_init_39 (fun q5 c9 C => ?_)
  obtain rfl : c1 = c9 := C.ra (i := 0) (j := 1) rfl rfl
  have C := C.subT (tys' := [(c1, .int)]) [0] rfl
  refine j_putF (pc := 41) C hin2 (ref := "GrainSilo") (T := TX0) (N := 15) (ws' := [(q0, .inr (0, [.ref q1, .ref q2, .int (zI 0), .ref q3, .ref q4, .ref q5, .null, .int (zI 0), .int (zI 0), .int (zI 0), .int (zI 0), .int (zI 0), .null, .null, .null])), (q1, .inl (c1, 12, .inl (zA (fun _ => 0)))), (q2, .inl (c1, 12, .inl (zA (fun _ => 0)))), (q3, .inl (c1, 16, .inl (zA (fun _ => 0)))), (q4, .inl (c1, 16, .inl (zA (fun _ => 0)))), (q5, .inl (c1, 16, .inl (zA (fun _ => 0))))]) hin tyX0 tyX0_ok nmX0 0 rfl rfl 5 (by decide) (C.w 9 rfl) rfl rfl rfl (ty := .array .int) (by decide +kernel) rfl rfl (Nat.le_of_ble_eq_true rfl) rfl dX0_init_41 ?_
  refine j_aload_n (pc := 44) C dX0_init_44 0 rfl ?_
  refine j_bipush (pc := 45) C dX0_init_45 (by decide +kernel) ?_
  refine j_newa (pc := 47) C (n := 16) (C.w 4 rfl) rfl (by decide) (by decide) (by decide) dX0_init_47 (fun q6 c9 C => ?_)
  obtain rfl : c1 = c9 := C.ra (i := 0) (j := 1) rfl rfl
  have C := C.subT (tys' := [(c1, .int)]) [0] rfl
  refine j_putF (pc := 49) C hin2 (ref := "GrainSilo") (T := TX0) (N := 15) (ws' := [(q0, .inr (0, [.ref q1, .ref q2, .int (zI 0), .ref q3, .ref q4, .ref q5, .ref q6, .int (zI 0), .int (zI 0), .int (zI 0), .int (zI 0), .int (zI 0), .null, .null, .null])), (q1, .inl (c1, 12, .inl (zA (fun _ => 0)))), (q2, .inl (c1, 12, .inl (zA (fun _ => 0)))), (q3, .inl (c1, 16, .inl (zA (fun _ => 0)))), (q4, .inl (c1, 16, .inl (zA (fun _ => 0)))), (q5, .inl (c1, 16, .inl (zA (fun _ => 0)))), (q6, .inl (c1, 16, .inl (zA (fun _ => 0))))]) hin tyX0 tyX0_ok nmX0 0 rfl rfl 6 (by decide) (C.w 10 rfl) rfl rfl rfl (ty := .array .int) (by decide +kernel) rfl rfl (Nat.le_of_ble_eq_true rfl) rfl dX0_init_49 ?_
  refine j_aload_n (pc := 52) C dX0_init_52 0 rfl ?_
  refine j_bipush (pc := 53) C dX0_init_53 (by decide +kernel) ?_
  refine j_newa (pc := 55) C (n := 12) (C.w 4 rfl) rfl (by decide) (by decide) (by decide) dX0_init_55 (fun q7 c9 C => ?_)
  obtain rfl : c1 = c9 := C.ra (i := 0) (j := 1) rfl rfl
  have C := C.subT (tys' := [(c1, .int)]) [0] rfl
  refine j_putF (pc := 57) C hin2 (ref := "GrainSilo") (T := TX0) (N := 15) (ws' := [(q0, .inr (0, [.ref q1, .ref q2, .int (zI 0), .ref q3, .ref q4, .ref q5, .ref q6, .int (zI 0), .int (zI 0), .int (zI 0), .int (zI 0), .int (zI 0), .ref q7, .null, .null])), (q1, .inl (c1, 12, .inl (zA (fun _ => 0)))), (q2, .inl (c1, 12, .inl (zA (fun _ => 0)))), (q3, .inl (c1, 16, .inl (zA (fun _ => 0)))), (q4, .inl (c1, 16, .inl (zA (fun _ => 0)))), (q5, .inl (c1, 16, .inl (zA (fun _ => 0)))), (q6, .inl (c1, 16, .inl (zA (fun _ => 0)))), (q7, .inl (c1, 12, .inl (zA (fun _ => 0))))]) hin tyX0 tyX0_ok nmX0 0 rfl rfl 12 (by decide) (C.w 11 rfl) rfl rfl rfl (ty := .array .int) (by decide +kernel) rfl rfl (Nat.le_of_ble_eq_true rfl) rfl dX0_init_57 ?_
  refine j_aload_n (pc := 60) C dX0_init_60 0 rfl ?_
  refine j_bipush (pc := 61) C dX0_init_61 (by decide +kernel) ?_
  refine j_newa (pc := 63) C (n := 12) (C.w 4 rfl) rfl (by decide) (by decide) (by decide) dX0_init_63 (fun q8 c9 C => ?_)
  obtain rfl : c1 = c9 := C.ra (i := 0) (j := 1) rfl rfl
  have C := C.subT (tys' := [(c1, .int)]) [0] rfl
  refine j_putF (pc := 65) C hin2 (ref := "GrainSilo") (T := TX0) (N := 15) (ws' := [(q0, .inr (0, [.ref q1, .ref q2, .int (zI 0), .ref q3, .ref q4, .ref q5, .ref q6, .int (zI 0), .int (zI 0), .int (zI 0), .int (zI 0), .int (zI 0), .ref q7, .ref q8, .null])), (q1, .inl (c1, 12, .inl (zA (fun _ => 0)))), (q2, .inl (c1, 12, .inl (zA (fun _ => 0)))), (q3, .inl (c1, 16, .inl (zA (fun _ => 0)))), (q4, .inl (c1, 16, .inl (zA (fun _ => 0)))), (q5, .inl (c1, 16, .inl (zA (fun _ => 0)))), (q6, .inl (c1, 16, .inl (zA (fun _ => 0)))), (q7, .inl (c1, 12, .inl (zA (fun _ => 0)))), (q8, .inl (c1, 12, .inl (zA (fun _ => 0))))]) hin tyX0 tyX0_ok nmX0 0 rfl rfl 13 (by decide) (C.w 12 rfl) rfl rfl rfl (ty := .array .int) (by decide +kernel) rfl rfl (Nat.le_of_ble_eq_true rfl) rfl dX0_init_65 ?_
  refine j_aload_n (pc := 68) C dX0_init_68 0 rfl ?_
  refine j_bipush (pc := 69) C dX0_init_69 (by decide +kernel) ?_
  refine j_bipush (pc := 71) C dX0_init_71 (by decide +kernel) ?_
  refine j_mna13 (pc := 73) C (C.w 13 rfl) hover (C.w 4 rfl) (c1 := c1) 0 rfl (by decide) (by decide) dX0_init_73 (fun q9 r c2 C => ?_)
  refine J.cell (ws' := [(q0, .inr (0, [.ref q1, .ref q2, .int (zI 0), .ref q3, .ref q4, .ref q5, .ref q6, .int (zI 0), .int (zI 0), .int (zI 0), .int (zI 0), .int (zI 0), .ref q7, .ref q8, .null])), (q1, .inl (c1, 12, .inl (zA (fun _ => 0)))), (q2, .inl (c1, 12, .inl (zA (fun _ => 0)))), (q3, .inl (c1, 16, .inl (zA (fun _ => 0)))), (q4, .inl (c1, 16, .inl (zA (fun _ => 0)))), (q5, .inl (c1, 16, .inl (zA (fun _ => 0)))), (q6, .inl (c1, 16, .inl (zA (fun _ => 0)))), (q7, .inl (c1, 12, .inl (zA (fun _ => 0)))), (q8, .inl (c1, 12, .inl (zA (fun _ => 0)))), (q9, .inl (c2, 13, .inr (.inr (.inr (.inr (fun i => some (r i))))))), (r 0, .inl (c1, 13, .inl (zA (fun _ => 0)))), (r 1, .inl (c1, 13, .inl (zA (fun _ => 0)))), (r 2, .inl (c1, 13, .inl (zA (fun _ => 0)))), (r 3, .inl (c1, 13, .inl (zA (fun _ => 0)))), (r 4, .inl (c1, 13, .inl (zA (fun _ => 0)))), (r 5, .inl (c1, 13, .inl (zA (fun _ => 0)))), (r 6, .inl (c1, 13, .inl (zA (fun _ => 0)))), (r 7, .inl (c1, 13, .inl (zA (fun _ => 0)))), (r 8, .inl (c1, 13, .inl (zA (fun _ => 0)))), (r 9, .inl (c1, 13, .inl (zA (fun _ => 0)))), (r 10, .inl (c1, 13, .inl (zA (fun _ => 0)))), (r 11, .inl (c1, 13, .inl (zA (fun _ => 0)))), (r 12, .inl (c1, 13, .inl (zA (fun _ => 0))))]) 9 (x := (13, .inr (.inr (.inr (.inr (fun i => if i < 13 then some (r i) else none)))))) (x' := (13, .inr (.inr (.inr (.inr (fun i => some (r i))))))) rfl rfl (outer_eq c2 r) ?_
  refine j_putF (pc := 77) C hin2 (ref := "GrainSilo") (T := TX0) (N := 15) (ws' := [(q0, .inr (0, [.ref q1, .ref q2, .int (zI 0), .ref q3, .ref q4, .ref q5, .ref q6, .int (zI 0), .int (zI 0), .int (zI 0), .int (zI 0), .int (zI 0), .ref q7, .ref q8, .ref q9])), (q1, .inl (c1, 12, .inl (zA (fun _ => 0)))), (q2, .inl (c1, 12, .inl (zA (fun _ => 0)))), (q3, .inl (c1, 16, .inl (zA (fun _ => 0)))), (q4, .inl (c1, 16, .inl (zA (fun _ => 0)))), (q5, .inl (c1, 16, .inl (zA (fun _ => 0)))), (q6, .inl (c1, 16, .inl (zA (fun _ => 0)))), (q7, .inl (c1, 12, .inl (zA (fun _ => 0)))), (q8, .inl (c1, 12, .inl (zA (fun _ => 0)))), (q9, .inl (c2, 13, .inr (.inr (.inr (.inr (fun i => some (r i))))))), (r 0, .inl (c1, 13, .inl (zA (fun _ => 0)))), (r 1, .inl (c1, 13, .inl (zA (fun _ => 0)))), (r 2, .inl (c1, 13, .inl (zA (fun _ => 0)))), (r 3, .inl (c1, 13, .inl (zA (fun _ => 0)))), (r 4, .inl (c1, 13, .inl (zA (fun _ => 0)))), (r 5, .inl (c1, 13, .inl (zA (fun _ => 0)))), (r 6, .inl (c1, 13, .inl (zA (fun _ => 0)))), (r 7, .inl (c1, 13, .inl (zA (fun _ => 0)))), (r 8, .inl (c1, 13, .inl (zA (fun _ => 0)))), (r 9, .inl (c1, 13, .inl (zA (fun _ => 0)))), (r 10, .inl (c1, 13, .inl (zA (fun _ => 0)))), (r 11, .inl (c1, 13, .inl (zA (fun _ => 0)))), (r 12, .inl (c1, 13, .inl (zA (fun _ => 0))))]) hin tyX0 tyX0_ok nmX0 0 rfl rfl 14 (by decide) (C.w 14 rfl) rfl rfl rfl (ty := .array (.array .int)) (by decide +kernel) rfl rfl (Nat.le_of_ble_eq_true rfl) rfl dX0_init_77 ?_
  refine j_aload_n (pc := 80) C dX0_init_80 0 rfl ?_
  refine j_bipush (pc := 81) C dX0_init_81 (by decide +kernel) ?_
  refine j_put (pc := 83) C (ref := "GrainSilo") (T := TX0) (N := 15) (ws' := [(q0, .inr (0, [.ref q1, .ref q2, .int (zI 0), .ref q3, .ref q4, .ref q5, .ref q6, .int (zI 0), .int (zI 0), .int (zI 14), .int (zI 0), .int (zI 0), .ref q7, .ref q8, .ref q9])), (q1, .inl (c1, 12, .inl (zA (fun _ => 0)))), (q2, .inl (c1, 12, .inl (zA (fun _ => 0)))), (q3, .inl (c1, 16, .inl (zA (fun _ => 0)))), (q4, .inl (c1, 16, .inl (zA (fun _ => 0)))), (q5, .inl (c1, 16, .inl (zA (fun _ => 0)))), (q6, .inl (c1, 16, .inl (zA (fun _ => 0)))), (q7, .inl (c1, 12, .inl (zA (fun _ => 0)))), (q8, .inl (c1, 12, .inl (zA (fun _ => 0)))), (q9, .inl (c2, 13, .inr (.inr (.inr (.inr (fun i => some (r i))))))), (r 0, .inl (c1, 13, .inl (zA (fun _ => 0)))), (r 1, .inl (c1, 13, .inl (zA (fun _ => 0)))), (r 2, .inl (c1, 13, .inl (zA (fun _ => 0)))), (r 3, .inl (c1, 13, .inl (zA (fun _ => 0)))), (r 4, .inl (c1, 13, .inl (zA (fun _ => 0)))), (r 5, .inl (c1, 13, .inl (zA (fun _ => 0)))), (r 6, .inl (c1, 13, .inl (zA (fun _ => 0)))), (r 7, .inl (c1, 13, .inl (zA (fun _ => 0)))), (r 8, .inl (c1, 13, .inl (zA (fun _ => 0)))), (r 9, .inl (c1, 13, .inl (zA (fun _ => 0)))), (r 10, .inl (c1, 13, .inl (zA (fun _ => 0)))), (r 11, .inl (c1, 13, .inl (zA (fun _ => 0)))), (r 12, .inl (c1, 13, .inl (zA (fun _ => 0))))]) hin tyX0 tyX0_ok nmX0 0 rfl rfl 9 (by decide) (C.w 15 rfl) rfl rfl (by decide +kernel) (Nat.le_of_ble_eq_true rfl) rfl dX0_init_83 ?_
  refine j_vretN (pc := 86) C hr dX0_init_86 (by decide) (by decide) (fun t hP hK hD => ⟨hOf [q0, q1, q2, q3, q4, q5, q6, q7, q8, q9] r, c1, c2, rfl, ?_, hK, ?_⟩)
  · have e : (fun i => some (r i)) = (fun j => some (hOf [q0, q1, q2, q3, q4, q5, q6, q7, q8, q9] r (10 + j))) := funext fun j => congrArg some (hOf_r _ r j).symm
    rw [e] at hP
    exact hP
  · have e : (fun i => some (r i)) = (fun j => some (hOf [q0, q1, q2, q3, q4, q5, q6, q7, q8, q9] r (10 + j))) := funext fun j => congrArg some (hOf_r _ r j).symm
    rw [e] at hD
    exact hD
theorem pN_E1 : pN = fun D tys av w sz => pE D tys av w E1 sz := rfl
set_option maxHeartbeats 4000000 in
set_option maxRecDepth 100000 in
theorem kX1_init (l : Launch) (D : va_G) (c1 c2 c3 : ClassId) (o : Nat) : eV l yX1_init wsX1_init ({ frames := 1, cells := 2, slots := 0, locals := 14 }) D (tyS c1 c2 c3) [.ref o] [(o, .inr (1, [.int (zI 0), .int (zI 0), .int (zI 0), .int (zI 0), .null, .null]))] E1 (fun (_ : Nat × Nat) => True) (fun (u9 : Nat × Nat) => wS c1 c2 o u9.1 u9.2 (fun _ => 0) (fun _ => 0) 0 14 0 0 0 z0 z0 0 z0 z0 z0 z0) 2 0 := by
  refine eV.of (cc := cX1_init) (maxL := 1) (by decide) rfl (lv := [(0, .ref o)]) [0] rfl (Nat.le_of_ble_eq_true rfl) ?_
  intro p e s m args below meth c A C hr hE hAw
  have ho : va_AOA .int s := hE
  have C : GC p s m args meth c cX1_init 1 RX1 wsX1_init D (tyS c1 c2 c3) A := C
  have hin : ∀ w ∈ wsX10, w ∈ wsX1_init := fun _ h => List.mem_cons_of_mem _ (List.mem_append_right _ h)
  refine j_aload_n (pc := 0) C dX1_init_0 0 rfl ?_
  refine j_objinit (pc := 1) C (C.w 1 rfl) (C.w 2 rfl) (C.w 3 rfl) (Nat.le_of_ble_eq_true rfl) (Nat.le_of_ble_eq_true rfl) dX1_init_1 rfl ?_
  refine j_aload_n (pc := 4) C dX1_init_4 0 rfl ?_
  refine j_bipush (pc := 5) C dX1_init_5 (by decide +kernel) ?_
  refine j_put (pc := 7) C (ref := "GrainSiloLaw$Sim") (T := TX1) (N := 6) (ws' := [(o, .inr (1, [.int (zI 0), .int (zI 14), .int (zI 0), .int (zI 0), .null, .null]))]) hin tyX1 tyX1_ok nmX1 0 rfl rfl 1 (by decide) (C.w 4 rfl) rfl rfl (by decide +kernel) (Nat.le_of_ble_eq_true rfl) rfl dX1_init_7 ?_
  refine j_aload_n (pc := 10) C dX1_init_10 0 rfl ?_
  refine j_iconst (pc := 11) C dX1_init_11 ?_
  refine j_newR (pc := 12) C ho 0 1 rfl rfl (C.w 5 rfl) (n := 0) (by omega) (by omega) (by show _ ≤ 2; omega) (by show _ ≤ 0; omega) dX1_init_12 (fun q1 => ?_)
  refine j_putR (pc := 15) C (ref := "GrainSiloLaw$Sim") (T := TX1) (N := 6) (ws' := [(o, .inr (1, [.int (zI 0), .int (zI 14), .int (zI 0), .int (zI 0), .ref q1, .null])), (q1, .inl (c2, 0, .inr (.inr (.inr (.inr (fun _ => none))))))]) hin tyX1 tyX1_ok nmX1 0 rfl rfl 4 (by decide) (C.w 6 rfl) rfl rfl (by decide +kernel) (Nat.le_of_ble_eq_true rfl) rfl dX1_init_15 ?_
  refine j_aload_n (pc := 18) C dX1_init_18 0 rfl ?_
  refine j_iconst (pc := 19) C dX1_init_19 ?_
  refine j_newR (pc := 20) C ho 0 1 rfl rfl (C.w 5 rfl) (n := 0) (by omega) (by omega) (by show _ ≤ 2; omega) (by show _ ≤ 0; omega) dX1_init_20 (fun q2 => ?_)
  refine j_putR (pc := 23) C (ref := "GrainSiloLaw$Sim") (T := TX1) (N := 6) (ws' := [(o, .inr (1, [.int (zI 0), .int (zI 14), .int (zI 0), .int (zI 0), .ref q1, .ref q2])), (q1, .inl (c2, 0, .inr (.inr (.inr (.inr (fun _ => none)))))), (q2, .inl (c2, 0, .inr (.inr (.inr (.inr (fun _ => none))))))]) hin tyX1 tyX1_ok nmX1 0 rfl rfl 5 (by decide) (C.w 7 rfl) rfl rfl (by decide +kernel) (Nat.le_of_ble_eq_true rfl) rfl dX1_init_23 ?_
  refine J.cell (ws' := [(o, .inr (1, [.int (zI 0), .int (zI 14), .int (zI 0), .int (zI 0), .ref q1, .ref q2])), (q1, eRef c2 0 (fun _ => 0)), (q2, .inl (c2, 0, .inr (.inr (.inr (.inr (fun _ => none))))))]) 1 rfl rfl (gN0 c2 _) ?_
  refine J.cell (ws' := [(o, .inr (1, [.int (zI 0), .int (zI 14), .int (zI 0), .int (zI 0), .ref q1, .ref q2])), (q1, eRef c2 0 (fun _ => 0)), (q2, eRef c2 0 (fun _ => 0))]) 2 rfl rfl (gN0 c2 _) ?_
  exact j_vretE (pc := 26) C hr dX1_init_26 ⟨q1, q2⟩ trivial (by rfl) (by omega) (by omega)
