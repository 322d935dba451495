/-! ===== from the entry ===== -/
theorem sub_world {a b : va_W} {A : Nat → Prop} {D : va_G} {H : Heap} (hP : va_P D vwCl (a ++ b) H) (hD : va_D A (a ++ b)) : va_P D vwCl a H ∧ va_D A a := sub_l hP hD
section JS
variable {p : Program} {l : Launch} {e : Env} {R : Room} {s : State} {m : MethodId} {args : Array Value} {below : List Frame} {meth : Method} {c : Code} {cc : ByteArray} {nL : Nat} {own : String} {Ts : List Cond} {D : va_G} {tys : List (ClassId × FieldType)} {A : Nat → Prop} {cells slots : Nat} {Q : State → Prop} {ws : va_W} {lv : List (Nat × Value)} {pc : Nat} {st : List Value}
theorem j_callN (C : GC p s m args meth c cc nL own Ts D tys A) (hover : va_AOA .int s) {y : MethodName} {wy : List Cond} {rm' : Room} {bytes : ByteArray} {maxL index mc ms h : Nat} {rest : List Value} {w0 wr : va_W} {tys' : List (ClassId × FieldType)} {Bf : Nat → State → Prop} (hws : ws = w0 ++ wr) (hM : ∀ sz : Nat, Met l y wy rm' (pN D tys' [.ref h] w0 sz) (qN (Bf sz) (va_A w0 sz)) mc ms (va_A w0 sz)) (ks : List Nat) (hks : ks.filterMap (fun i => tys[i]?) = tys')
    (cw : CallB R s args own index y bytes maxL none wy rm' mc ms 0 ∧ y.name = "<init>" ∧ (Cond.instanceMethod y).before args s = true) {G : va_W → List (ClassId × FieldType) → Prop} (hB : ∀ sz t, Bf sz t → ∃ w1 tysN, G w1 tysN ∧ va_P D vwCl w1 t.heap ∧ va_K D vwCl tysN t ∧ va_D (va_A w0 sz) w1)
    (dg : decode cc pc = .ok (.invokespecial index, 3)) (hst : st = .ref h :: rest) (hro : (rest.map fun v => v.category).sum ≤ 8) (hf : cells + mc ≤ R.cells ∧ slots + ms ≤ R.slots)
    (k : ∀ w1 tysN, G w1 tysN → va_K D vwCl tysN s → J p l e R s m args below meth c nL D A (cells + mc) (slots + ms) Q (w1 ++ wr) lv (pc + 3) rest) : J p l e R s m args below meth c nL D A cells slots Q ws lv pc st := by
  subst hst; subst hws
  intro H locs ls hP hD hS hl
  obtain ⟨hPc, hDc⟩ := sub_world hP hD
  have hFc := free_all hDc hS C.2.2.2.2.2.2.1
  have hKc : va_K D vwCl tys' s := C.2.2.2.2.2.1.sub ks hks
  refine va_callv (va_runI (As := []) (rest := rest) ⟨C.1, C.2.1, C.2.2.1, C.2.2.2.1, C.2.2.2.2.1⟩ (hM H.size) cw ⟨pN.blind, fun U hU hW => ⟨rfl, by rw [hU], by rw [hU]; exact hPc, va_K.moved hW.alike hKc, hDc.weaken (fun _ _ _ _ => trivial), va_AOA.moved hW.alike hover⟩⟩ rfl rfl hl.1 rfl (lv_room hro) dg hf) hS (fun q _ h => hFc q h) hFc (fun u t H1 locs1 ht hvm hw hB1 hz1 hk1 hS1 => ?_)
  obtain ⟨w1, tysN, g, hP1, hK1, hD1⟩ := hB _ _ hB1
  rw [ht] at hP1
  obtain ⟨hP2, hD2⟩ := frame_back (H0 := s.heap) (locs := locs) hP hD hFc hk1 hP1 hD1
  exact k w1 tysN g (va_K.moved hvm.symm hK1) H1 locs1 ls hP2 hD2 hS1 hl
end JS
theorem w_X0 : Cond.instantiable RX0 15 ∈ wsL_law ∧ Cond.classLink RL 31 RX0 ∈ wsL_law ∧ Cond.initialized RX0 ∈ wsL_law ∧ Cond.methodLink RL 76 yX0_init ∈ lw_tbl ∧ Cond.instanceMethod yX0_init ∈ lw_tbl := by decide +kernel
theorem w_arr : Cond.arrayOver (.array .int) ∈ lw_tbl ∧ Cond.methodLinkNest RL 71 yX1_init RL ∈ lw_tbl ∧ Cond.instantiable RX1 6 ∈ lw_tbl := by decide +kernel
set_option maxHeartbeats 4000000 in
set_option maxRecDepth 100000 in
theorem whole_start {p : Program} {e : Env} {s : State} {m : MethodId} {below : List Frame} {meth : Method} {c : Code} (l : Launch) (hflags : l.flags = flags0) {b L : Nat} {xs : Nat → Int32} (hL : L ≤ 260) (C0 : lw_At p s m meth c b L xs) : W p l e room_1 s m #[Value.ref b] below meth c s.heap [] 0 0 (lw_Z below #[Value.ref b] s) (entryFrame m ([Value.ref b] : List Value).toArray 19) := by
  obtain ⟨hx, hb, hr, hml, hown, hts, hX, hbl, hlocks, hgv⟩ := C0
  have hwl : ∀ w ∈ wsL_law, w.before #[Value.ref b] s = true := fun w hw => hts w (wsL_law_in w hw)
  obtain ⟨c0, iS0, hKn0⟩ := u_known (C := RX0) (T := TX0) (N := 15) (n := 15) hts inX0 (hwl _ w_X0.1)
  obtain ⟨d1, iS1, hKn1⟩ := u_known (C := RX1) (T := TX1) (N := 6) (n := 6) hts inX1 (hts _ w_arr.2.2)
  obtain ⟨D, hKc⟩ : ∃ D : va_G, ∀ (k : Nat) (q : vw_C), vwCl[k]? = some q → u_Kn s q.1 q.2.1 q.2.2 (D.1 k) (D.2 k) := by
    refine ⟨(fun k => if k = 0 then c0 else d1, fun k => if k = 0 then iS0 else iS1), ?_⟩
    intro k q hq
    match k, hq with
    | 0, hq => cases hq; exact hKn0
    | 1, hq => cases hq; exact hKn1
    | k + 2, hq => simp [vwCl] at hq
  have hK : va_K D vwCl [] s := ⟨hKc, fun k q h => by simp at h⟩
  have C : GC p s m #[Value.ref b] meth c cL_law 19 RL wsL_law D [] (fun q : Nat => s.heap.size ≤ q) := ⟨hx, hb, hml, hown, hwl, hK, fun q h => h, hlocks⟩
  have hover : va_AOA .int s := va_AOA.of (hts _ w_arr.1)
  have hNw : va_Nw (.methodLinkNest RL 71 yX1_init RL) s := va_Nw.of rfl (hts _ w_arr.2.1)
  have hE : E2 b L xs s := ⟨hover, hNw, hX, hbl⟩
  have hbA : ¬ (fun q : Nat => s.heap.size ≤ q) b := Nat.not_le.mpr hbl
  have hl := lv_entry ([.ref b]) (n := 19) (Nat.le_of_ble_eq_true rfl)
  rw [lg_entry_eq]
  generalize (lg_sl ([.ref b]) ++ List.replicate (19 - (lg_sl ([.ref b])).length) Slot.unset).toArray = ls at hl ⊢
  have hl : lv_has ls 19 [(0, .ref b)] := hl
  suffices J0 : J p l e room_1 s m #[Value.ref b] below meth c 19 D (fun q : Nat => s.heap.size ≤ q) 0 0 (lw_Z below #[Value.ref b] s) [] [(0, .ref b)] 0 [] from J0 s.heap [] ls (fun k q h => by simp at h) ⟨fun i j p q h => by simp at h, fun k q h => by simp at h⟩ va_S.rf hl
  refine j_new (pc := 0) C (ci := 0) (fs := [.null, .null, .int (zI 0), .null, .null, .null, .null, .int (zI 0), .int (zI 0), .int (zI 0), .int (zI 0), .int (zI 0), .null, .null, .null]) inlX0 tyX0 tyX0_ok (hwl _ w_X0.2.1) (hwl _ w_X0.1) (hwl _ w_X0.2.2.1) rfl (fun j hj => by rcases (show j = 0 ∨ j = 1 ∨ j = 2 ∨ j = 3 ∨ j = 4 ∨ j = 5 ∨ j = 6 ∨ j = 7 ∨ j = 8 ∨ j = 9 ∨ j = 10 ∨ j = 11 ∨ j = 12 ∨ j = 13 ∨ j = 14 by omega) with rfl | rfl | rfl | rfl | rfl | rfl | rfl | rfl | rfl | rfl | rfl | rfl | rfl | rfl | rfl <;> first | rfl | exact congrArg Value.int zI_0.symm) (Nat.le_of_ble_eq_true rfl) (Nat.le_of_ble_eq_true rfl) dL_law_0 (fun q0 => ?_)
  refine j_dup (pc := 3) C dL_law_3 rfl ?_
  refine j_callN (pc := 4) C hover (w0 := w0X0 q0) (wr := []) (rest := [.ref q0]) rfl (fun sz => kX0_init l D q0 sz) [] rfl (cwI 0 hwl gL_law_X0_init rfl rfl rfl (hwl _ w_X0.2.2.1) (hts _ w_X0.2.2.2.1) (hts _ w_X0.2.2.2.2) rfl (by decide +kernel) ⟨Nat.le_of_ble_eq_true rfl, Nat.le_of_ble_eq_true rfl⟩) (G := fun w1 tysN => ∃ (h : Nat → Nat) (c1 c2 : ClassId), h 0 = q0 ∧ w1 = wG0 h c1 c2 ∧ tysN = [(c1, .int), (c2, .array .int)]) (fun sz t hB => by obtain ⟨h, c1, c2, e1, e2, e3, e4⟩ := hB; exact ⟨_, _, ⟨h, c1, c2, e1, rfl, rfl⟩, e2, e3, e4⟩) dL_law_4 rfl (Nat.le_of_ble_eq_true rfl) ⟨Nat.le_of_ble_eq_true rfl, Nat.le_of_ble_eq_true rfl⟩ (fun w1 tysN g hKN => ?_)
  obtain ⟨h, c1, c2, rfl, rfl, rfl⟩ := g
  have C : GC p s m #[Value.ref b] meth c cL_law 19 RL wsL_law D (tyS c1 c2 c1) (fun q : Nat => s.heap.size ≤ q) := ⟨hx, hb, hml, hown, hwl, hKN, fun q h => h, hlocks⟩
  refine j_astore_n (pc := 7) C (lv' := [(0, .ref b), (1, .ref (h 0))]) dL_law_7 (by decide) [1, 0] rfl ?_
  refine j_aload_n (pc := 8) C dL_law_8 1 rfl ?_
  refine j_aload_n (pc := 9) C dL_law_9 0 rfl ?_
  refine J.know (fun hD9 => ?_)
  refine j_callSER (pc := 10) C E2.be (E2.he hE hbA) (As := [.ref (h 0), .ref b]) (rest := []) (w0 := wG0 h c1 c2) (wr := []) (kL_build l D c1 c2 c1 h z0 z0 (fun _ _ => 0) b L xs hL (fun k e9 h9 => hbA (hD9.2 k (b, e9) (by rw [List.append_nil]; exact h9)))) (va_cwS 2 C.2.2.2.2.1 gL_law_L_build rfl rfl rfl (by decide +kernel) ⟨Nat.le_of_ble_eq_true rfl, Nat.le_of_ble_eq_true rfl⟩) dL_law_10 rfl rfl (Nat.le_of_ble_eq_true rfl) ⟨Nat.le_of_ble_eq_true rfl, Nat.le_of_ble_eq_true rfl⟩ (fun u hu => ?_)
  obtain ⟨o, u⟩ := u
  try dsimp only at hu ⊢
  refine J.cast (ws' := wU h c1 c2 o u) ?_ (List.append_nil _) rfl rfl
  refine j_astore_n (pc := 13) C (lv' := [(0, .ref b), (1, .ref (h 0)), (2, .ref o)]) dL_law_13 (by decide) [1, 2, 0] rfl ?_
  refine j_aload_n (pc := 14) C dL_law_14 2 rfl ?_
  refine j_ifnonnull (pc := 15) C 20 dL_law_15 (by decide) ?_
  refine j_iconst (pc := 20) C dL_law_20 ?_
  refine j_istore_n (pc := 21) C (lv' := [(0, .ref b), (1, .ref (h 0)), (2, .ref o), (3, .int (zI 0))]) dL_law_21 (by decide) [1, 2, 3, 0] rfl ?_
  exact J.widen (Nat.le_of_ble_eq_true rfl) (Nat.le_of_ble_eq_true rfl) (lw_all C hr hE hL u hu)
