/-! ===== from the entry to the loop ===== -/
section JS
variable {p : Program} {l : Launch} {e : Env} {R : Room} {s : State} {m : MethodId} {args : Array Value} {below : List Frame} {meth : Method} {c : Code} {cc : ByteArray} {nL : Nat} {own : String} {Ts : List Cond} {D : va_G} {tys : List (ClassId × FieldType)} {A : Nat → Prop} {cells slots : Nat} {Q : State → Prop} {ws : va_W} {lv : List (Nat × Value)} {pc : Nat} {st : List Value}
theorem j_new (C : GC p s m args meth c cc nL own Ts D tys A) {Cn : String} {T : u_T} {N ci index : Nat} (hin : ∀ w ∈ u_ws Cn T N, w ∈ Ts) (ty : Nat → FieldType) (hty : ∀ k, k < N → parseFieldDescriptor (T k).2.2.1 = some (ty k)) (hcl : (Cond.classLink own index Cn).before args s = true) (hinst : (Cond.instantiable Cn N).before args s = true) (hini : (Cond.initialized Cn).before args s = true) (hc : vwCl[ci]? = some (Cn, T, N)) {fs : List Value} (hfs : ∀ j, j < N → defaultValue (ty j) = vp_V fs j) (hce : cells + 1 ≤ R.cells) (hsl : slots + N ≤ R.slots) (dg : decode cc pc = .ok (.new index, 3))
    (k : ∀ q : Nat, J p l e R s m args below meth c nL D A (cells + 1) (slots + N) Q (ws ++ [(q, .inr (ci, fs))]) lv (pc + 3) (.ref q :: st)) : J p l e R s m args below meth c nL D A cells slots Q ws lv pc st :=
  fun H locs ls hP hD hS hl => va_new C.1 C.2.1 C.2.2.2.2.1 hin ty hty C.2.2.2.1 hcl hinst hini C.2.2.2.2.2.1 hP hD hS C.2.2.2.2.2.2.1 hc hfs hce hsl dg (fun q H1 hP1 hD1 hS1 => k q H1 locs ls hP1 hD1 hS1 hl)
theorem j_newL (C : GC p s m args meth c cc nL own Ts D tys A) (harr : (Cond.arrayClass .long).before args s = true) (hc : cells + 1 ≤ R.cells) (hs : slots + 1 ≤ R.slots) (dg : decode cc pc = .ok (.newarray .long, 2))
    (k : ∀ (q : Nat) (cA : ClassId), GC p s m args meth c cc nL own Ts D (tys ++ [(cA, .long)]) A → J p l e R s m args below meth c nL D A (cells + 1) (slots + 1) Q (ws ++ [(q, .inl (cA, 1, .inr (.inl (fun _ => 0))))]) lv (pc + 2) (.ref q :: st)) : J p l e R s m args below meth c nL D A cells slots Q ws lv pc (.int (zI 1) :: st) := by
  intro H locs ls hP hD hS hl
  have e1 : zI 1 = nI 1 := zI_nI (n := 1) (by decide)
  rw [e1]
  refine va_newa (atype := .long) (ty := .long) (N' := 1) (a0 := (1, .inr (.inl (fun _ => 0)))) C.1 C.2.1 harr rfl C.2.2.2.2.2.1 hP hD hS C.2.2.2.2.2.2.1 (fun _ => rfl) (nI_pos (by decide)) (nI_clamp (by decide)) (by decide) hc hs dg (fun q cA H1 hK1 hP1 hD1 hS1 => ?_)
  exact k q cA ⟨C.1, C.2.1, C.2.2.1, C.2.2.2.1, C.2.2.2.2.1, hK1, C.2.2.2.2.2.2⟩ H1 locs ls hP1 hD1 hS1 hl
theorem j_callN (C : GC p s m args meth c cc nL own Ts D tys A) (hover : va_AOA .int s) {y : MethodName} {wy : List Cond} {rm' : Room} {bytes : ByteArray} {maxL index mc ms h : Nat} {rest : List Value} {w0 wr : va_W} {tys' : List (ClassId × FieldType)} {Bf : Nat → State → Prop} (hws : ws = w0 ++ wr) (hM : ∀ sz : Nat, Met l y wy rm' (pN D tys' [.ref h] w0 sz) (qN (Bf sz) (va_A w0 sz)) mc ms (va_A w0 sz)) (ks : List Nat) (hks : ks.filterMap (fun i => tys[i]?) = tys')
    (cw : CallB R s args own index y bytes maxL none wy rm' mc ms 0 ∧ y.name = "<init>" ∧ (Cond.instanceMethod y).before args s = true) {G : va_W → List (ClassId × FieldType) → Prop} (hB : ∀ sz t, Bf sz t → ∃ w1 tysN, G w1 tysN ∧ va_P D vwCl w1 t.heap ∧ va_K D vwCl tysN t ∧ va_D (va_A w0 sz) w1)
    (dg : decode cc pc = .ok (.invokespecial index, 3)) (hst : st = .ref h :: rest) (hro : (rest.map fun v => v.category).sum ≤ 8) (hf : cells + mc ≤ R.cells ∧ slots + ms ≤ R.slots)
    (k : ∀ w1 tysN, G w1 tysN → va_K D vwCl tysN s → J p l e R s m args below meth c nL D A (cells + mc) (slots + ms) Q (w1 ++ wr) lv (pc + 3) rest) : J p l e R s m args below meth c nL D A cells slots Q ws lv pc st := by
  subst hst; subst hws
  intro H locs ls hP hD hS hl
  obtain ⟨hPc, hDc⟩ := sub_world hP hD
  have hFc := free_all hDc hS C.2.2.2.2.2.2.1
  have hKc : va_K D vwCl tys' s := C.2.2.2.2.2.1.sub ks hks
  refine va_callv (va_runI (As := []) (rest := rest) ⟨C.1, C.2.1, C.2.2.1, C.2.2.2.1, C.2.2.2.2.1⟩ (hM H.size) cw ⟨pN.blind, fun U hU hW => ⟨rfl, by rw [hU], by rw [hU]; exact hPc, va_K.moved hW.alike hKc, hDc.weaken (fun _ _ _ _ => trivial), va_AOA.moved hW.alike hover⟩⟩ rfl rfl hl.1 rfl (lv_room hro) dg hf) hS (fun q _ h => hFc q h) hFc (fun u t H1 locs1 ht hvm hw hB1 hz1 hk1 hS1 => ?_)
  obtain ⟨w1, tysN, g, hP1, hK1, hD1⟩ := hB _ _ hB1
  rw [ht] at hP1
  obtain ⟨hP2, hD2⟩ := frame_back (H0 := s.heap) (locs := locs) hP hD hFc hk1 hP1 hD1
  exact k w1 tysN g (va_K.moved hvm.symm hK1) H1 locs1 ls hP2 hD2 hS1 hl
end JS
theorem xs_of {A : Array Value} {s : State} {k : Nat} {tx : String} (h1 : (Cond.stringRef RX0 k tx).before A s = true) (h2 : (Cond.exactly (.string RX0 k) "java/lang/String").before A s = true) : ∃ a, vk_R RX0 k tx a s := by
  obtain ⟨a, c, cA, kA, q1, -⟩ := Cond.exactly_spec h2
  exact ⟨a, vk_R.of h1 q1⟩
theorem xW_in : ∀ w ∈ xW, w ∈ lw_tbl := by decide +kernel
theorem xS_in : ∀ q ∈ xS, Cond.stringRef RX0 q.1 q.2 ∈ lw_tbl := by decide +kernel
theorem xF_start {A : Array Value} {s : State} (hts : ∀ w ∈ lw_tbl, w.before A s = true) (hgv : (Jvm.Cond.and given_1 narrow_1).before A s = true) : xF (fun q : Nat => s.heap.size ≤ q) s s.heap := by
  have hs := flat_of_before _ hgv
  have hA : ∀ a : Nat, a < s.heap.size → ¬ (fun q : Nat => s.heap.size ≤ q) a := fun a h => Nat.not_le.mpr h
  refine ⟨fun w hw => va_Nw.of (x_tab w hw) (hts w (xW_in w hw)), vx_Zqof (hts _ (by decide +kernel)) (hts _ (by decide +kernel)) (hs _ (by decide +kernel)) hA, vx_Zqof (hts _ (by decide +kernel)) (hts _ (by decide +kernel)) (hs _ (by decide +kernel)) hA, fun q hq => ?_, fun q hq => ?_⟩
  · have h1 := hts _ (xS_in q hq)
    simp only [xS, List.mem_cons, List.not_mem_nil, or_false] at hq
    rcases hq with rfl | rfl | rfl | rfl | rfl | rfl | rfl | rfl | rfl | rfl | rfl <;> exact xs_of h1 (hs _ (by decide +kernel))
  · simp only [xN, List.mem_cons, List.not_mem_nil, or_false] at hq
    rcases hq with rfl | rfl | rfl | rfl | rfl | rfl <;> exact va_Nc.of (hs _ (by decide +kernel))
theorem Rel.start : Rel 0 z0 z0 0 z0 z0 z0 z0 0 14 z0 z0 z0 z0 z0 z0 :=
  ⟨⟨⟨by decide, by decide⟩, ⟨by decide, by decide⟩, fun j h1 h2 => absurd h2 (by omega), fun j h1 h2 => absurd h2 (by omega)⟩, fun j h1 h2 => absurd h2 (by omega), fun j h1 h2 => absurd h2 (by omega), ⟨by decide, by decide⟩, fun _ _ _ => rfl, fun _ _ _ => rfl, fun _ _ _ => rfl, fun _ _ _ => rfl, fun _ _ _ => rfl, fun _ _ _ => rfl⟩
theorem w_X0 : Cond.instantiable RX0 15 ∈ wsL_law ∧ Cond.classLink RL 8 RX0 ∈ wsL_law ∧ Cond.initialized RX0 ∈ wsL_law ∧ Cond.methodLink RL 88 yX0_init ∈ lw_tbl ∧ Cond.instanceMethod yX0_init ∈ lw_tbl := by decide +kernel
theorem w_X1 : Cond.instantiable RX1 16 ∈ wsL_law ∧ Cond.classLink RL 89 RX1 ∈ wsL_law ∧ Cond.initialized RX1 ∈ wsL_law ∧ Cond.methodLink RL 91 yX1_init ∈ lw_tbl ∧ Cond.instanceMethod yX1_init ∈ lw_tbl := by decide +kernel
theorem w_arr : Cond.arrayClass .long ∈ lw_tbl ∧ Cond.arrayOver (.array .int) ∈ lw_tbl := by decide +kernel
set_option maxHeartbeats 4000000 in
set_option maxRecDepth 100000 in
theorem whole_start {p : Program} {e : Env} {s : State} {m : MethodId} {below : List Frame} {meth : Method} {c : Code} (l : Launch) (hflags : l.flags = flags0) {b L : Nat} {xs : Nat → Int32} (hL : L ≤ 1536) (C0 : lw_At p s m meth c b L xs) : W p l e room_1 s m #[Value.ref b] below meth c s.heap [] 0 0 (lw_Z below #[Value.ref b] s) (entryFrame m ([Value.ref b] : List Value).toArray 9) := by
  obtain ⟨hx, hb, hr, hml, hown, hts, hX, hbl, hlocks, hgv⟩ := C0
  have htr : l.stackTraces = false := by
    unfold Launch.stackTraces
    rw [hflags]
    decide +kernel
  have hxF := xF_start hts hgv
  have hwl : ∀ w ∈ wsL_law, w.before #[Value.ref b] s = true := fun w hw => hts w (wsL_law_in w hw)
  obtain ⟨c0, iS0, hKn0⟩ := u_known (C := RX0) (T := TX0) (N := 15) (n := 15) hts inX0 (hwl _ w_X0.1)
  obtain ⟨d1, iS1, hKn1⟩ := u_known (C := RX1) (T := TX1) (N := 16) (n := 16) hts inX1 (hwl _ w_X1.1)
  obtain ⟨D, hKc⟩ : ∃ D : va_G, ∀ (k : Nat) (q : vw_C), vwCl[k]? = some q → u_Kn s q.1 q.2.1 q.2.2 (D.1 k) (D.2 k) := by
    refine ⟨(fun k => if k = 0 then c0 else d1, fun k => if k = 0 then iS0 else iS1), ?_⟩
    intro k q hq
    match k, hq with
    | 0, hq => cases hq; exact hKn0
    | 1, hq => cases hq; exact hKn1
    | k + 2, hq => simp [vwCl] at hq
  have hK : va_K D vwCl [] s := ⟨hKc, fun k q h => by simp at h⟩
  have C : GC p s m #[Value.ref b] meth c cL_law 9 RL wsL_law D [] (fun q : Nat => s.heap.size ≤ q) := ⟨hx, hb, hml, hown, hwl, hK, fun q h => h, hlocks⟩
  have hover : va_AOA .int s := va_AOA.of (hts _ w_arr.2)
  have hl := lv_entry ([.ref b]) (n := 9) (Nat.le_of_ble_eq_true rfl)
  rw [lg_entry_eq]
  generalize (lg_sl ([.ref b]) ++ List.replicate (9 - (lg_sl ([.ref b])).length) Slot.unset).toArray = ls at hl ⊢
  have hl : lv_has ls 9 [(0, .ref b)] := hl
  suffices J0 : J p l e room_1 s m #[Value.ref b] below meth c 9 D (fun q : Nat => s.heap.size ≤ q) 0 0 (lw_Z below #[Value.ref b] s) [] [(0, .ref b)] 0 [] from J0 s.heap [] ls (fun k q h => by simp at h) ⟨fun i j p q h => by simp at h, fun k q h => by simp at h⟩ va_S.rf hl
  refine j_new (pc := 0) C (ci := 0) (fs := [.null, .null, .int (zI 0), .null, .null, .null, .null, .int (zI 0), .int (zI 0), .int (zI 0), .int (zI 0), .int (zI 0), .null, .null, .null]) inlX0 tyX0 tyX0_ok (hwl _ w_X0.2.1) (hwl _ w_X0.1) (hwl _ w_X0.2.2.1) rfl (fun j hj => by rcases (show j = 0 ∨ j = 1 ∨ j = 2 ∨ j = 3 ∨ j = 4 ∨ j = 5 ∨ j = 6 ∨ j = 7 ∨ j = 8 ∨ j = 9 ∨ j = 10 ∨ j = 11 ∨ j = 12 ∨ j = 13 ∨ j = 14 by omega) with rfl | rfl | rfl | rfl | rfl | rfl | rfl | rfl | rfl | rfl | rfl | rfl | rfl | rfl | rfl <;> first | rfl | exact congrArg Value.int zI_0.symm) (Nat.le_of_ble_eq_true rfl) (Nat.le_of_ble_eq_true rfl) dL_law_0 (fun q0 => ?_)
  refine j_dup (pc := 3) C dL_law_3 rfl ?_
  refine j_callN (pc := 4) C hover (w0 := w0X0 q0) (wr := []) (rest := [.ref q0]) rfl (fun sz => kX0_init l D q0 sz) [] rfl (cwI 0 hwl gL_law_X0_init rfl rfl rfl (hwl _ w_X0.2.2.1) (hts _ w_X0.2.2.2.1) (hts _ w_X0.2.2.2.2) rfl (by decide +kernel) ⟨Nat.le_of_ble_eq_true rfl, Nat.le_of_ble_eq_true rfl⟩) (G := fun w1 tysN => ∃ (h : Nat → Nat) (c1 c2 : ClassId), h 0 = q0 ∧ w1 = wG0 h c1 c2 ∧ tysN = [(c1, .int), (c2, .array .int)]) (fun sz t hB => by obtain ⟨h, c1, c2, e1, e2, e3, e4⟩ := hB; exact ⟨_, _, ⟨h, c1, c2, e1, rfl, rfl⟩, e2, e3, e4⟩) dL_law_4 rfl (Nat.le_of_ble_eq_true rfl) ⟨Nat.le_of_ble_eq_true rfl, Nat.le_of_ble_eq_true rfl⟩ (fun w1 tysN g hKN => ?_)
  obtain ⟨h, c1, c2, rfl, rfl, rfl⟩ := g
  have C : GC p s m #[Value.ref b] meth c cL_law 9 RL wsL_law D [(c1, .int), (c2, .array .int)] (fun q : Nat => s.heap.size ≤ q) := ⟨hx, hb, hml, hown, hwl, hKN, fun q h => h, hlocks⟩
  refine j_astore_n (pc := 7) C dL_law_7 (by decide) [1, 0] rfl ?_
  refine j_new (pc := 8) C (ci := 1) (fs := [.int (zI 0), .int (zI 0), .null, .null, .int (zI 0), .null, .null, .null, .null, .int (zI 0), .int (zI 0), .int (zI 0), .int (zI 0), .null, .null, .null]) inlX1 tyX1 tyX1_ok (hwl _ w_X1.2.1) (hwl _ w_X1.1) (hwl _ w_X1.2.2.1) rfl (fun j hj => by rcases (show j = 0 ∨ j = 1 ∨ j = 2 ∨ j = 3 ∨ j = 4 ∨ j = 5 ∨ j = 6 ∨ j = 7 ∨ j = 8 ∨ j = 9 ∨ j = 10 ∨ j = 11 ∨ j = 12 ∨ j = 13 ∨ j = 14 ∨ j = 15 by omega) with rfl | rfl | rfl | rfl | rfl | rfl | rfl | rfl | rfl | rfl | rfl | rfl | rfl | rfl | rfl | rfl <;> first | rfl | exact congrArg Value.int zI_0.symm) (Nat.le_of_ble_eq_true rfl) (Nat.le_of_ble_eq_true rfl) dL_law_8 (fun q1 => ?_)
  refine j_dup (pc := 11) C dL_law_11 rfl ?_
  refine J.swap ?_
  refine j_callN (pc := 12) C hover (w0 := w0X1 q1) (wr := wG0 h c1 c2 ++ []) (rest := [.ref q1]) rfl (fun sz => kX1_init l D c1 q1 sz) [0] rfl (cwI 0 hwl gL_law_X1_init rfl rfl rfl (hwl _ w_X1.2.2.1) (hts _ w_X1.2.2.2.1) (hts _ w_X1.2.2.2.2) rfl (by decide +kernel) ⟨Nat.le_of_ble_eq_true rfl, Nat.le_of_ble_eq_true rfl⟩) (G := fun w1 tysN => ∃ (k : Nat → Nat), k 0 = q1 ∧ w1 = wN0 k c1) (fun sz t hB => by obtain ⟨k, e1, e2, e3, e4⟩ := hB; exact ⟨_, _, ⟨k, e1, rfl⟩, e2, e3, e4⟩) dL_law_12 rfl (Nat.le_of_ble_eq_true rfl) ⟨Nat.le_of_ble_eq_true rfl, Nat.le_of_ble_eq_true rfl⟩ (fun w1 tysN g _ => ?_)
  obtain ⟨k, rfl, rfl⟩ := g
  refine j_astore_n (pc := 15) C dL_law_15 (by decide) [1, 2, 0] rfl ?_
  refine j_iconst (pc := 16) C dL_law_16 ?_
  refine j_newL (pc := 17) C (hts _ w_arr.1) (Nat.le_of_ble_eq_true rfl) (Nat.le_of_ble_eq_true rfl) dL_law_17 (fun o9 c3 C => ?_)
  have C : GC p s m #[Value.ref b] meth c cL_law 9 RL wsL_law D (tyS c1 c2 c3) (fun q : Nat => s.heap.size ≤ q) := C
  refine j_astore_n (pc := 19) C dL_law_19 (by decide) [1, 2, 3, 0] rfl ?_
  refine j_iconst (pc := 20) C dL_law_20 ?_
  refine j_istore (pc := 21) C dL_law_21 (by decide) [1, 2, 3, 4, 0] rfl ?_
  refine J.widen (k := 100 + 0) (n := 1000 + 9 * 0) (Nat.le_of_ble_eq_true rfl) (Nat.le_of_ble_eq_true rfl) ?_
  refine J.cast (ws' := wN0 k c1 ++ (wG0 h c1 c2 ++ [(o9, .inl (c3, 1, .inr (.inl (fun _ => 0))))])) ?_ (by rw [List.append_nil, List.append_assoc]) rfl rfl
  refine J.swap ?_
  exact lw_loop C hr htr hxF hX hbl hL 512 0 (by decide) _ ⟨_, _, _, _, _, _, _, _, _, _, _, _, _, _, _, _, _, _, _, _, _, _, _, _, _, _, rfl, Rel.start⟩
