/-! ===== the matrix is one, whatever stood in it ===== -/
def wz (L : Int) (lo hi su db : Int → Int) (S : Int) : Int → Int → Int := wg L lo hi su db (fun _ _ => 0) S
theorem wz_eq {Dm : Int → Int} {L : Int} {lo hi su db : Int → Int} {S : Int} (hok : okS Dm L lo hi su db S) (N : Int → Int → Int) : eqL L (wg L lo hi su db N S) (wz L lo hi su db S) := fun a b a0 a1 b0 b1 => by
  rw [wg_fw hok N (fun _ _ => 0) a b a0 a1 b0 b1]
  exact (wg_fw hok (fun _ _ => 0) (fun _ _ => 0) a b a0 a1 b0 b1).symm
theorem wz_ok {Dm : Int → Int} {L : Int} {lo hi su db : Int → Int} {S : Int} (hok : okS Dm L lo hi su db S) : Wok L Dm (wz L lo hi su db S) := wg_ok hok _ S hok.2.1.1 (Int.le_refl _)
theorem wz_B {Dm : Int → Int} {L : Int} {lo hi su db : Int → Int} {S : Int} (hok : okS Dm L lo hi su db S) : ∀ x y : Int, 0 ≤ x → x ≤ L → 0 ≤ y → y ≤ L → -480 ≤ wz L lo hi su db S x y ∧ wz L lo hi su db S x y ≤ 480 := Wok_B hok.1.2 hok.2.2.1 (wz_ok hok)
theorem wz_E {Dm : Int → Int} {L : Int} {lo hi su db : Int → Int} {S : Int} (hok : okS Dm L lo hi su db S) : Ed L lo hi su db S (wz L lo hi su db S) := wg_Ed hok _
theorem wz_T {Dm : Int → Int} {L : Int} {lo hi su db : Int → Int} {S : Int} (hok : okS Dm L lo hi su db S) (x y z : Int) (x0 : 0 ≤ x) (x1 : x ≤ L) (y0 : 0 ≤ y) (y1 : y ≤ L) (z0 : 0 ≤ z) (z1 : z ≤ L) : wz L lo hi su db S x y ≤ wz L lo hi su db S x z + wz L lo hi su db S z y := (wz_ok hok).2.2 x y z x0 x1 y0 y1 z0 z1
def ab (v : Int) : Int := if v < 0 then -v else v
theorem ab_or (v : Int) : 0 ≤ ab v ∧ (ab v = v ∨ ab v = -v) := by
  unfold ab
  split <;> omega
theorem Rel.mono {t t' : Int} {K Dm : Int → Int} {L : Int} {lo hi su db : Int → Int} {S li : Int} {K' Dm' lo' hi' su' db' : Int → Int} (r : Rel t K Dm L lo hi su db S li K' Dm' lo' hi' su' db') (h : t ≤ t') : Rel t' K Dm L lo hi su db S li K' Dm' lo' hi' su' db' := ⟨r.1, fun n n0 n1 => by have := r.2.1 n n0 n1; omega, r.2.2⟩
theorem Rel.start : Rel 0 z0 z0 0 z0 z0 z0 z0 0 14 z0 z0 z0 z0 z0 z0 :=
  ⟨⟨⟨by decide, by decide⟩, ⟨by decide, by decide⟩, fun j h1 h2 => absurd h2 (by omega), fun j h1 h2 => absurd h2 (by omega)⟩, fun j h1 h2 => absurd h2 (by omega), fun j h1 h2 => absurd h2 (by omega), ⟨by decide, by decide⟩, fun _ _ _ => rfl, fun _ _ _ => rfl, fun _ _ _ => rfl, fun _ _ _ => rfl, fun _ _ _ => rfl, fun _ _ _ => rfl⟩
section JK
variable {p : Program} {l : Launch} {e : Env} {R : Room} {s : State} {m : MethodId} {args : Array Value} {below : List Frame} {meth : Method} {c : Code} {cc : ByteArray} {nL : Nat} {own : String} {Ts : List Cond} {D : va_G} {tys : List (ClassId × FieldType)} {A : Nat → Prop} {cells slots : Nat} {Q : State → Prop} {ws : va_W} {lv : List (Nat × Value)} {pc : Nat} {st : List Value}
theorem J.know (k : va_D A ws → J p l e R s m args below meth c nL D A cells slots Q ws lv pc st) : J p l e R s m args below meth c nL D A cells slots Q ws lv pc st := fun H locs ls hP hD hS hl => k hD H locs ls hP hD hS hl
theorem j_new (C : GC p s m args meth c cc nL own Ts D tys A) {Cn : String} {T : u_T} {N ci index : Nat} (hin : ∀ w ∈ u_ws Cn T N, w ∈ Ts) (ty : Nat → FieldType) (hty : ∀ k, k < N → parseFieldDescriptor (T k).2.2.1 = some (ty k)) (hcl : (Cond.classLink own index Cn).before args s = true) (hinst : (Cond.instantiable Cn N).before args s = true) (hini : (Cond.initialized Cn).before args s = true) (hc : vwCl[ci]? = some (Cn, T, N)) {fs : List Value} (hfs : ∀ j, j < N → defaultValue (ty j) = vp_V fs j) (hce : cells + 1 ≤ R.cells) (hsl : slots + N ≤ R.slots) (dg : decode cc pc = .ok (.new index, 3))
    (k : ∀ q : Nat, J p l e R s m args below meth c nL D A (cells + 1) (slots + N) Q (ws ++ [(q, .inr (ci, fs))]) lv (pc + 3) (.ref q :: st)) : J p l e R s m args below meth c nL D A cells slots Q ws lv pc st :=
  fun H locs ls hP hD hS hl => va_new C.1 C.2.1 C.2.2.2.2.1 hin ty hty C.2.2.2.1 hcl hinst hini C.2.2.2.2.2.1 hP hD hS C.2.2.2.2.2.2.1 hc hfs hce hsl dg (fun q H1 hP1 hD1 hS1 => k q H1 locs ls hP1 hD1 hS1 hl)
end JK
