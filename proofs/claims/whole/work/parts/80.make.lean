/-! constructors: worlds that grow -/
def AOW (U : State) : Prop := (Cond.arrayOver (.array .int)).before #[] U = true
theorem AOW.of {a : Array Value} {U : State} (h : (Cond.arrayOver (.array .int)).before a U = true) : AOW U := Jvm.Stand.arrayOver_alikeB (Vm.Alike.refl U.vm) h
theorem AOW.moved {u U : State} (hvm : u.vm.Alike U.vm) (h : AOW u) : AOW U := Jvm.Stand.arrayOver_alikeB hvm h
theorem AOW.use {a : Array Value} {U : State} (h : AOW U) : (Cond.arrayOver (.array .int)).before a U = true := Jvm.Stand.arrayOver_alikeB (Vm.Alike.refl U.vm) h
abbrev idw : va_W → va_W := fun ws => ws
def zf : Int → Int := fun _ => 0
theorem iI_0 : iI 0 = 0 := by decide
theorem lI_0 : lI 0 = 0 := by decide
section MK
variable {p : Program} {l : Launch} {e : Env} {R : Room} {s : State} {m : MethodId} {args : Array Value} {below : List Frame} {meth : Method} {c : Code} {D : va_G} {cl : List vw_C} {tys : List (ClassId × FieldType)} {A : Nat → Prop} {nL nc ns : Nat} {Q : State → Prop} {cc : ByteArray} {own : String} {Ts : List Cond} {lv lv' : List (Nat × Value)} {pc n : Nat} {st : List Value} {ws wr : va_W}
theorem g_obj {τ : Type} {w : τ → va_W} {x : τ} (C : CX p s m args c cc nL own TT D cl tys) {idx a : Nat} (kl : Cond.methodLink own idx ⟨"java/lang/Object", "<init>", "()V"⟩ ∈ TT) (hd : decode cc pc = .ok (.invokespecial idx, 3)) (hn : pc + 3 = n) (hF : 1 ≤ R.frames) (hL : 2 * 0 + (st.map fun v => v.category).sum + 12 ≤ R.locals) (k : GG p l e R s m args below meth c D cl A nL nc ns Q w x lv n st) : GG p l e R s m args below meth c D cl A nL nc ns Q w x lv pc (.ref a :: st) := by
  subst hn
  intro H locs ls hP hD hS hl
  exact W.objInit C.1 C.2.1 C.2.2.2.1 (C.2.2.2.2.1 _ kl) (C.2.2.2.2.1 _ ki_O) (C.2.2.2.2.1 _ kc_O) rfl (by rw [C.2.2.1]; exact hl.1) rfl hd hF hL (k H locs ls hP hD hS hl)
theorem g_new (C : CX p s m args c cc nL own TT D cl tys) {Cn : String} {T : u_T} {N ci index : Nat} {fs : List Value} (hA : ∀ q, s.heap.size ≤ q → A q) (ty : Nat → FieldType) (hin : ∀ wd ∈ u_ws Cn T N, wd ∈ TT) (hty : ∀ k, k < N → parseFieldDescriptor (T k).2.2.1 = some (ty k)) (kl : Cond.classLink own index Cn ∈ TT) (kz : Cond.instantiable Cn N ∈ TT) (kn : Cond.initialized Cn ∈ TT) (hc : cl[ci]? = some (Cn, T, N)) (hfs : ∀ j, j < N → defaultValue (ty j) = vp_V fs j) (h1 : nc + 1 ≤ R.cells) (h2 : ns + N ≤ R.slots) (hd : decode cc pc = .ok (.new index, 3)) (hn : pc + 3 = n)
    (k : ∀ q : Nat, GG p l e R s m args below meth c D cl A nL (nc + 1) (ns + N) Q idw (ws ++ [(q, .inr (ci, fs))]) lv n (.ref q :: st)) : GG p l e R s m args below meth c D cl A nL nc ns Q idw ws lv pc st := by
  subst hn
  intro H locs ls hP hD hS hl
  exact va_new C.1 C.2.1 C.2.2.2.2.1 hin ty hty C.2.2.2.1 (C.2.2.2.2.1 _ kl) (C.2.2.2.2.1 _ kz) (C.2.2.2.2.1 _ kn) C.2.2.2.2.2.1 hP hD hS hA hc hfs h1 h2 hd (fun q H1 hP1 hD1 hS1 => k q H1 locs ls hP1 hD1 hS1 hl)
theorem g_newa (C : CX p s m args c cc nL own TT D cl tys) {atype : ArrayType} {ty : FieldType} {N t0 : Nat} {cA : ClassId} {f : (Nat → Int32) ⊕ (Nat → Int64) ⊕ (Nat → UInt32) ⊕ (Nat → UInt64) ⊕ (Nat → Option Nat)} (hA : ∀ q, s.heap.size ≤ q → A q) (ht : tys[t0]? = some (cA, ty)) (hta : newarray.typeOf atype = ty) (hra : ∀ cB, va_RA s cB ty → s.vm.findClass ("[" ++ ty.toString) = some cB) (ka : Cond.arrayClass (newarray.typeOf atype) ∈ TT) (hf : ∀ cA : ClassId, vp_cell cA (N, f) = arrV cA N (fun _ => defaultValue ty)) (hN : N < 2147483648) (hb : N * componentBytes ty ≤ 536870912) (h1 : nc + 1 ≤ R.cells) (h2 : ns + N ≤ R.slots) (hd : decode cc pc = .ok (.newarray atype, 2)) (hn : pc + 2 = n)
    (k : ∀ q : Nat, GG p l e R s m args below meth c D cl A nL (nc + 1) (ns + N) Q idw (ws ++ [(q, .inl (cA, N, f))]) lv n (.ref q :: st)) : GG p l e R s m args below meth c D cl A nL nc ns Q idw ws lv pc (.int (iI (N : Int)) :: st) := by
  subst hn
  intro H locs ls hP hD hS hl
  refine va_newa C.1 C.2.1 (C.2.2.2.2.1 _ ka) hta C.2.2.2.2.2.1 hP hD hS hA hf (by
    have := iI_lt (a := (N : Int)) (b := 0) (by omega) (by omega)
    rw [iI_0] at this
    rw [this]; omega) (by rw [iI_cl (by omega) (by omega)]; omega) hb h1 h2 hd (fun q cB H1 hK1 hP1 hD1 hS1 => ?_)
  have e1 := hra cA (C.2.2.2.2.2.1.2 t0 _ ht).2
  have e2 := hra cB (hK1.2 tys.length (cB, ty) (by simp)).2
  have e3 : cB = cA := Option.some.inj (e2.symm.trans e1)
  subst e3
  exact k q H1 locs ls hP1 hD1 hS1 hl
theorem g_newI (C : CX p s m args c cc nL own TT D cl tys) {N : Nat} {cA : ClassId} (hA : ∀ q, s.heap.size ≤ q → A q) (ht : tys[0]? = some (cA, .int)) (hN : N < 100000) (h1 : nc + 1 ≤ R.cells) (h2 : ns + N ≤ R.slots) (hd : decode cc pc = .ok (.newarray .int, 2)) (hn : pc + 2 = n)
    (k : ∀ q : Nat, GG p l e R s m args below meth c D cl A nL (nc + 1) (ns + N) Q idw (ws ++ [(q, .inl (cA, N, .inl (ia zf)))]) lv n (.ref q :: st)) : GG p l e R s m args below meth c D cl A nL nc ns Q idw ws lv pc (.int (iI (N : Int)) :: st) :=
  g_newa (atype := .int) (ty := .int) (t0 := 0) C hA ht rfl (fun _ h => h) ka_int (fun cA => by show arrV cA N (fun j => .int (iI 0)) = _; rw [iI_0]; rfl) (by omega) (by show N * 4 ≤ _; omega) h1 h2 hd hn k
theorem g_newZ (C : CX p s m args c cc nL own TT D cl tys) {N : Nat} {cA : ClassId} (hA : ∀ q, s.heap.size ≤ q → A q) (ht : tys[1]? = some (cA, .boolean)) (hN : N < 100000) (h1 : nc + 1 ≤ R.cells) (h2 : ns + N ≤ R.slots) (hd : decode cc pc = .ok (.newarray .boolean, 2)) (hn : pc + 2 = n)
    (k : ∀ q : Nat, GG p l e R s m args below meth c D cl A nL (nc + 1) (ns + N) Q idw (ws ++ [(q, .inl (cA, N, .inl (ia zf)))]) lv n (.ref q :: st)) : GG p l e R s m args below meth c D cl A nL nc ns Q idw ws lv pc (.int (iI (N : Int)) :: st) :=
  g_newa (atype := .boolean) (ty := .boolean) (t0 := 1) C hA ht rfl (fun _ h => h) ka_boolean (fun cA => by show arrV cA N (fun j => .int (iI 0)) = _; rw [iI_0]; rfl) (by omega) (by show N * 1 ≤ _; omega) h1 h2 hd hn k
theorem g_newL (C : CX p s m args c cc nL own TT D cl tys) {N : Nat} {cA : ClassId} (hA : ∀ q, s.heap.size ≤ q → A q) (ht : tys[2]? = some (cA, .long)) (hN : N < 100000) (h1 : nc + 1 ≤ R.cells) (h2 : ns + N ≤ R.slots) (hd : decode cc pc = .ok (.newarray .long, 2)) (hn : pc + 2 = n)
    (k : ∀ q : Nat, GG p l e R s m args below meth c D cl A nL (nc + 1) (ns + N) Q idw (ws ++ [(q, .inl (cA, N, .inr (.inl (la zf))))]) lv n (.ref q :: st)) : GG p l e R s m args below meth c D cl A nL nc ns Q idw ws lv pc (.int (iI (N : Int)) :: st) :=
  g_newa (atype := .long) (ty := .long) (t0 := 2) C hA ht rfl (fun _ h => h) ka_long (fun cA => by show arrV cA N (fun j => .long (lI 0)) = _; rw [lI_0]; rfl) (by omega) (by show N * 8 ≤ _; omega) h1 h2 hd hn k
theorem g_putF {τ : Type} {w : τ → va_W} {x : τ} (C : CX p s m args c cc nL own TT D cl tys) {Cn : String} {T : u_T} {N ci index a : Nat} {fs : List Value} {v : Value} {ty : FieldType} {x' : τ} (hin2 : meth.name = "<init>") (q0 k : Nat) (ty0 : Nat → FieldType) (hin : ∀ wd ∈ u_ws Cn T N, wd ∈ TT) (hty : ∀ k, k < N → parseFieldDescriptor (T k).2.2.1 = some (ty0 k)) (hnm : ∀ a, a < N → ∀ b, b < N → a ≠ b → (T a).2.1 ≠ (T b).2.1) (he : (w x)[q0]? = some (a, .inr (ci, fs))) (hc : cl[ci]? = some (Cn, T, N)) (hk : k < N) (hlink : Cond.fieldLink own index own (T k).2.1 (T k).2.2.1 ∈ TT) (hs : (T k).1 = own) (hfin : (T k).2.2.2 = true) (hp : parseFieldDescriptor (T k).2.2.1 = some ty) (hnar : narrow ty v = v) (hfit : fits ty v = true) (hlen : k < fs.length) (hw : (w x).set q0 (a, .inr (ci, fs.set k v)) = w x') (hd : decode cc pc = .ok (.putfield index, 3)) (hn : pc + 3 = n)
    (kk : GG p l e R s m args below meth c D cl A nL nc ns Q w x' lv n st) : GG p l e R s m args below meth c D cl A nL nc ns Q w x lv pc (v :: .ref a :: st) :=
  fun H locs ls hP hD hS hl => by
    subst hn
    refine va_putF C.1 C.2.1 C.2.2.2.2.1 hin ty0 hty hnm C.2.2.2.1 C.2.2.2.2.2.1 hP hD hS q0 he hc k hk (C.2.2.2.2.1 _ hlink) (fun y hy => hs ▸ hy) hfin hin2 hs hp hnar hfit hlen hd (fun H1 locs1 hP1 hD1 hS1 => ?_)
    rw [hw] at hP1 hD1
    exact kk H1 locs1 ls hP1 hD1 hS1 hl
/-- cells from the heap's end on, apart from the rest -/
theorem D_new {wn : va_W} {H : Heap} (hP : va_P D cl ws H) (hD : va_D A ws) (hA : ∀ q, H.size ≤ q → A q) (hn : ∀ (i j : Nat) (x y : Nat × va_E), wn[i]? = some x → wn[j]? = some y → x.1 = y.1 → i = j) (hz : ∀ (k : Nat) (x : Nat × va_E), wn[k]? = some x → H.size ≤ x.1) : va_D A (ws ++ wn) := by
  have key : ∀ (k : Nat) (x : Nat × va_E), (ws ++ wn)[k]? = some x → (ws[k]? = some x ∧ x.1 < H.size) ∨ (ws.length ≤ k ∧ wn[k - ws.length]? = some x ∧ H.size ≤ x.1) := fun k x hk => by
    by_cases c : k < ws.length
    · rw [List.getElem?_append_left c] at hk
      exact Or.inl ⟨hk, (hP k x hk).lt⟩
    · rw [List.getElem?_append_right (by omega)] at hk
      exact Or.inr ⟨by omega, hk, hz _ x hk⟩
  refine ⟨fun i j x y hi hj hxy => ?_, fun k x hk => ?_⟩
  · rcases key i x hi with ⟨a1, a2⟩ | ⟨a0, a1, a2⟩ <;> rcases key j y hj with ⟨b1, b2⟩ | ⟨b0, b1, b2⟩
    · exact hD.1 i j x y a1 b1 hxy
    · omega
    · omega
    · have := hn _ _ x y a1 b1 hxy
      omega
  · rcases key k x hk with ⟨a1, -⟩ | ⟨-, -, a2⟩
    · exact hD.2 k x a1
    · exact hA _ a2
end MK
/-- the rows of the grid -/
def gw (kq ki : ClassId) (g : Nat → Nat) : va_W := [(g 0, .inl (kq, 8, .inr (.inr (.inr (.inr (fun i => if i < 8 then some (g (1 + i)) else none)))))), (g 1, .inl (ki, 20, .inl (ia zf))), (g 2, .inl (ki, 20, .inl (ia zf))), (g 3, .inl (ki, 20, .inl (ia zf))), (g 4, .inl (ki, 20, .inl (ia zf))), (g 5, .inl (ki, 20, .inl (ia zf))), (g 6, .inl (ki, 20, .inl (ia zf))), (g 7, .inl (ki, 20, .inl (ia zf))), (g 8, .inl (ki, 20, .inl (ia zf)))]
theorem gw_at {kq ki : ClassId} {g : Nat → Nat} {k : Nat} {x : Nat × va_E} (h : (gw kq ki g)[k]? = some x) : k < 9 ∧ x.1 = g k ∧ (0 < k → x.2 = .inl (ki, 20, .inl (ia zf))) ∧ (k = 0 → x.2 = .inl (kq, 8, .inr (.inr (.inr (.inr (fun i => if i < 8 then some (g (1 + i)) else none)))))) := by
  have hl : k < 9 := (List.getElem?_eq_some_iff.mp h).1
  refine ⟨hl, ?_⟩
  match k, hl, h with
  | 0, _, h => cases h; exact ⟨rfl, fun q => absurd q (by omega), fun _ => rfl⟩
  | 1, _, h => cases h; exact ⟨rfl, fun _ => rfl, fun q => absurd q (by omega)⟩
  | 2, _, h => cases h; exact ⟨rfl, fun _ => rfl, fun q => absurd q (by omega)⟩
  | 3, _, h => cases h; exact ⟨rfl, fun _ => rfl, fun q => absurd q (by omega)⟩
  | 4, _, h => cases h; exact ⟨rfl, fun _ => rfl, fun q => absurd q (by omega)⟩
  | 5, _, h => cases h; exact ⟨rfl, fun _ => rfl, fun q => absurd q (by omega)⟩
  | 6, _, h => cases h; exact ⟨rfl, fun _ => rfl, fun q => absurd q (by omega)⟩
  | 7, _, h => cases h; exact ⟨rfl, fun _ => rfl, fun q => absurd q (by omega)⟩
  | 8, _, h => cases h; exact ⟨rfl, fun _ => rfl, fun q => absurd q (by omega)⟩
theorem outer_m (c : ClassId) (N h0 : Nat) : ∀ i, (Jvm.Free.Multi.outerC c N h0 i).monitor = {} ∧ (Jvm.Free.Multi.outerC c N h0 i).hash = none
  | 0 => ⟨rfl, rfl⟩
  | i + 1 => by
    obtain ⟨a, b⟩ := outer_m c N h0 i
    exact ⟨by simp [Jvm.Free.Multi.outerC, Cell.setSlot, a], by simp [Jvm.Free.Multi.outerC, Cell.setSlot, b]⟩
theorem outer_V (cA : ClassId) (h0 : Nat) : Jvm.Free.Multi.outerC cA 8 h0 8 = vp_cell cA (8, .inr (.inr (.inr (.inr (fun i => if i < 8 then some (h0 + 1 + i) else none))))) := by
  obtain ⟨o1, o2, o3⟩ := Jvm.Free.Multi.outerC_facts cA 8 h0 8
  have os := Jvm.Free.Multi.outerC_slot cA 8 h0 8
  have om := outer_m cA 8 h0 8
  show _ = arrV cA 8 (fun j => va_rf (if j < 8 then some (h0 + 1 + j) else none))
  generalize Jvm.Free.Multi.outerC cA 8 h0 8 = cell at *
  cases cell
  obtain ⟨om1, om2⟩ := om
  simp only at o1 o2 o3 os om1 om2
  subst o1
  subst o2
  subst om1
  subst om2
  unfold arrV
  congr 1
  apply Array.ext_getElem?
  intro i
  by_cases hi : i < 8
  · rw [os i hi]
    simp [hi, va_rf]
  · rw [Array.getElem?_eq_none (by omega), Array.getElem?_eq_none (by simp; omega)]
section MN
variable {p : Program} {l : Launch} {e : Env} {R : Room} {s : State} {m : MethodId} {args : Array Value} {below : List Frame} {meth : Method} {c : Code} {D : va_G} {cl : List vw_C} {A : Nat → Prop} {nL nc ns : Nat} {Q : State → Prop} {cc : ByteArray} {own : String} {lv : List (Nat × Value)} {pc n : Nat} {st : List Value} {ws : va_W} {ki kz kl kq : ClassId}
theorem g_mna (C : CX p s m args c cc nL own TT D cl (tyz ki kz kl kq)) {index : Nat} (hA : ∀ q, s.heap.size ≤ q → A q) (hAO : AOW s) (kc : Cond.classLink own index "[[I" ∈ TT) (h1 : nc + 9 ≤ R.cells) (h2 : ns + 168 ≤ R.slots) (hd : decode cc pc = .ok (.multianewarray index 2, 4)) (hn : pc + 4 = n)
    (k : ∀ g : Nat → Nat, GG p l e R s m args below meth c D cl A nL (nc + 9) (ns + 168) Q idw (ws ++ gw kq ki g) lv n (.ref (g 0) :: st)) : GG p l e R s m args below meth c D cl A nL nc ns Q idw ws lv pc (.int (iI 20) :: .int (iI 8) :: st) := by
  subst hn
  intro H locs ls hP hD hS hl T hT X
  have hcl : (Cond.classLink own index ("[" ++ (FieldType.array .int).toString)).before args s = true := C.2.2.2.2.1 _ kc
  have e8 : (iI 8).toNatClampNeg = 8 := by decide
  have e20 : (iI 20).toNatClampNeg = 20 := by decide
  obtain ⟨vm₁, cA, comp, hW, hfA, hfC, hO, hI, X1, go⟩ := X.multianewarray2F C.1 (ty := .int) C.2.2.2.1 hcl hAO.use (C.2.2.2.2.1 _ ka_int) (g := F0 m pc ls (.int (iI 20) :: .int (iI 8) :: st)) rfl (by rw [C.2.1]; exact hd) (n := iI 8) (k := iI 20) rfl (by decide) (by decide) (by rw [e8]; decide) (by rw [e20]; decide) (by rw [e20]; decide) (by decide) (by decide) (by rw [e8]; exact h1) (by rw [e8, e20]; exact h2)
  rw [e8, e20] at X1 go
  have eA : cA = kq := Option.some.inj (hfA.symm.trans (C.2.2.2.2.2.1.2 3 (kq, .array .int) rfl).2)
  have eC : comp = ki := Option.some.inj (hfC.symm.trans (C.2.2.2.2.2.1.2 0 (ki, .int) rfl).2)
  subst eA
  subst eC
  obtain ⟨f1, f2, f3, f4⟩ := Jvm.Free.Multi.fill_facts (T.setVm vm₁) cA comp 8 20 (defaultValue .int) 8
  have fo := fun (a : Addr) (ha : a < T.heap.size) => Jvm.Free.Multi.fill_old (T.setVm vm₁) cA comp 8 20 (defaultValue .int) (a := a) ha 8
  have fi := fun (j : Nat) (hj : j < 8) => Jvm.Free.Multi.fill_inner (T.setVm vm₁) cA comp 8 20 (defaultValue .int) 8 j hj
  have hTs : (T.setVm vm₁).heap = T.heap := rfl
  rw [hTs] at f1 f2 fi
  generalize Jvm.Free.Multi.fill (T.setVm vm₁) cA comp 8 20 (defaultValue .int) 8 = T2 at *
  subst hT
  have hP2 : va_P D cl ws T2.heap := hP.kept (fun k x hx => fo x.1 (hP k x hx).lt)
  have hg : va_P D cl (gw cA comp (fun j => T.heap.size + j)) T2.heap := fun k x hx => by
    obtain ⟨g1, g2, g3, g4⟩ := gw_at hx
    obtain ⟨x1, x2⟩ := x
    simp only at g2 g3 g4
    by_cases e0 : k = 0
    · have q := g4 e0
      subst q
      subst e0
      show T2.heap[x1]? = some (vp_cell _ _)
      rw [g2, Nat.add_zero, f2, outer_V]
      congr 2
      simp only [Nat.add_assoc]
    · have q := g3 (by omega)
      subst q
      show T2.heap[x1]? = some (vp_cell _ _)
      obtain ⟨j, rfl⟩ : ∃ j, k = j + 1 := ⟨k - 1, by omega⟩
      have q2 := fi j (by omega)
      rw [g2, show T.heap.size + (j + 1) = T.heap.size + 1 + j by omega, q2]
      show some (Jvm.Free.Multi.innerC comp 20 (defaultValue .int)) = some (arrV comp 20 (fun j => .int (iI 0)))
      rw [iI_0]
      exact congrArg some (arrV_new comp 20 (.int 0))
  have hD2 : va_D A (ws ++ gw cA comp (fun j => T.heap.size + j)) := D_new hP hD (fun q hq => hA q (Nat.le_trans hS.1 hq)) (fun i j x y hi hj hxy => by
    have a1 := (gw_at hi).2.1
    have a2 := (gw_at hj).2.1
    omega) (fun k x hx => by have := (gw_at hx).2.1; omega)
  obtain ⟨t, a1, b1⟩ := k (fun j => T.heap.size + j) T2.heap locs ls (hP2.app hg) hD2 ⟨Nat.le_trans hS.1 (by omega), fun q q1 q2 => (fo q (Nat.lt_of_lt_of_le q1 hS.1)).trans (hS.2.1 q q1 q2), hS.2.2⟩ hl T2 rfl X1
  exact ⟨t, go t a1, b1⟩
end MN
