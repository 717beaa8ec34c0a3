/-! contracts over the worlds w x, and calls -/
def adr (ws : va_W) : Nat → Prop := fun q => ∃ (k : Nat) (e : va_E), ws[k]? = some (q, e)
def PcW {τ : Type} (D : va_G) (cl : List vw_C) (tys : List (ClassId × FieldType)) (w : τ → va_W) (x : τ) (av : List Value) : Array Value → State → Prop := va_Pc av (fun U => va_P D cl (w x) U.heap ∧ (va_K D cl tys U ∧ NW U) ∧ va_D (fun _ => True) (w x))
def QcW {τ : Type} (D : va_G) (cl : List vw_C) (w : τ → va_W) (x : τ) (post : Option Value → τ → Prop) : Array Value → State → Outcome → State → Prop := fun _ st oc t => (∃ (v : Option Value) (x' : τ), oc = .returned v ∧ post v x' ∧ va_P D cl (w x') t.heap) ∧ va_F (adr (w x)) st t
def MM {τ : Type} (l : Launch) (D : va_G) (cl : List vw_C) (tys : List (ClassId × FieldType)) (w : τ → va_W) (y : MethodName) (ws : List Cond) (rm : Room) (av : List Value) (x : τ) (post : Option Value → τ → Prop) : Prop := Met l y ws rm (PcW D cl tys w x av) (QcW D cl w x post) 0 0 (adr (w x))
def pI {τ : Type} (f : Int → τ → Prop) : Option Value → τ → Prop := fun v x => ∃ z, v = some (.int (iI z)) ∧ f z x
def pL {τ : Type} (f : Int → τ → Prop) : Option Value → τ → Prop := fun v x => ∃ z, v = some (.long (lI z)) ∧ f z x
def pV {τ : Type} (f : τ → Prop) : Option Value → τ → Prop := fun v x => v = none ∧ f x
/-- the cells stay where they are -/
def fixD {τ : Type} (w : τ → va_W) : Prop := ∀ (x x' : τ), (w x).map Prod.fst = (w x').map Prod.fst
theorem D_map {A : Nat → Prop} {w1 w2 : va_W} (h : w1.map Prod.fst = w2.map Prod.fst) (hD : va_D A w1) : va_D A w2 := by
  have key : ∀ (i : Nat) (q : Nat × va_E), w2[i]? = some q → ∃ q0, w1[i]? = some q0 ∧ q0.1 = q.1 := by
    intro i q hq
    have h1 : (w1.map Prod.fst)[i]? = some q.1 := by rw [h, List.getElem?_map, hq]; rfl
    rw [List.getElem?_map] at h1
    cases h2 : w1[i]? with
    | none => rw [h2] at h1; cases h1
    | some q0 => rw [h2] at h1; exact ⟨q0, rfl, Option.some.inj h1⟩
  refine ⟨fun i j x y hi hj hxy => ?_, fun k q hk => ?_⟩
  · obtain ⟨x0, h1, h2⟩ := key i x hi
    obtain ⟨y0, h3, h4⟩ := key j y hj
    exact hD.1 i j x0 y0 h1 h3 (h2.trans (hxy.trans h4.symm))
  · obtain ⟨q0, h1, h2⟩ := key k q hk
    rw [← h2]
    exact hD.2 k q0 h1
theorem blindW {τ : Type} {D : va_G} {cl : List vw_C} {tys : List (ClassId × FieldType)} {w : τ → va_W} {x : τ} {av : List Value} : FrameBlind (PcW D cl tys w x av) :=
  fun a U g mk q => ⟨q.1, q.2.1, ⟨va_K.moved (u := U) (U := U.calling g mk a) (Vm.Alike.refl U.vm) q.2.2.1.1, NW.same (u := U) (U := U.calling g mk a) rfl q.2.2.1.2⟩, q.2.2.2⟩
theorem MM.mk {τ : Type} {l : Launch} {D : va_G} {cl : List vw_C} {tys : List (ClassId × FieldType)} {w : τ → va_W} {y : MethodName} {rm : Room} {av : List Value} {x : τ} {post : Option Value → τ → Prop} {own : String} (cc : ByteArray) (maxL : Nat) (ret : Option FieldType) (hy : plainName y.cls = true) (ho : y.cls = own) (hal : (lg_sl av).length ≤ maxL)
    (body : ∀ (p : Program) (e : Env) (s : State) (m : MethodId) (args : Array Value) (below : List Frame) (meth : Method) (c : Code), CX p s m args c cc maxL own TT D cl tys → meth.sig.returnType = ret → meth.locks = false →
      GG p l e rm s m args below meth c D cl (adr (w x)) maxL 0 0 (MQ below (QcW D cl w x post) args s 0 0 (adr (w x))) w x (lv_args 0 av) 0 []) : MM l D cl tys w y (Cond.code y cc maxL ret :: TT) rm av x post := by
  refine Met.ofW (cc := cc) (maxL := maxL) (ret := ret) hy rfl ?_
  intro p e s m args below meth c s₁ B hml hv
  obtain ⟨rfl, hP, ⟨hK, hN⟩, hD⟩ := hv
  have hts := atoms_spec (ws := Cond.code y cc maxL ret :: TT) B.pre
  have hown : s.vm.findClass y.cls = some m.cls := findClass_of_methodNamed B.named
  rw [ho] at hown
  have hl := lv_entry av (n := maxL) hal
  rw [lg_entry_eq]
  exact body p e s m av.toArray below meth c ⟨B.exec, B.bytes, hml, hown, fun w hw => hts w (List.mem_cons_of_mem _ hw), hK, hN⟩ B.returns B.notSynchronized s.heap [] _ hP ⟨hD.1, fun k q hk => ⟨k, q.2, hk⟩⟩ va_S.rf hl
section GC
variable {τ : Type} {p : Program} {l : Launch} {e : Env} {R : Room} {s : State} {m : MethodId} {args : Array Value} {below : List Frame} {meth : Method} {c : Code} {D : va_G} {cl : List vw_C} {tys : List (ClassId × FieldType)} {A : Nat → Prop} {nL nc ns : Nat} {Q : State → Prop} {w : τ → va_W} {x x0 : τ} {cc : ByteArray} {own : String} {Ts : List Cond} {lv lv' : List (Nat × Value)} {pc n : Nat} {st : List Value} {post : Option Value → τ → Prop}
theorem g_iret (C : CX p s m args c cc nL own Ts D cl tys) (hr : meth.sig.returnType = some .int) (hk : meth.locks = false) {y : Int} (hd : decode cc pc = .ok (.ireturn, 1)) (hp : post (some (.int (iI y))) x) : GG p l e R s m args below meth c D cl (adr (w x0)) nL 0 0 (MQ below (QcW D cl w x0 post) args s 0 0 (adr (w x0))) w x lv pc [.int (iI y)] :=
  fun H locs ls hP hD hS hl => W.iret C.1 C.2.1 hr (fun t ht _ => ⟨⟨_, x, rfl, hp, by rw [ht]; exact hP⟩, hS.F ht⟩) hS.2.2 hd hk
theorem g_zret (C : CX p s m args c cc nL own Ts D cl tys) (hr : meth.sig.returnType = some .boolean) (hk : meth.locks = false) {y : Int} (hy : y = 0 ∨ y = 1) (hd : decode cc pc = .ok (.ireturn, 1)) (hp : post (some (.int (iI y))) x) : GG p l e R s m args below meth c D cl (adr (w x0)) nL 0 0 (MQ below (QcW D cl w x0 post) args s 0 0 (adr (w x0))) w x lv pc [.int (iI y)] :=
  fun H locs ls hP hD hS hl => W.zret C.1 C.2.1 hr (by rcases hy with rfl | rfl <;> decide +kernel) (fun t ht _ => ⟨⟨_, x, rfl, hp, by rw [ht]; exact hP⟩, hS.F ht⟩) hS.2.2 hd hk
theorem g_lret (C : CX p s m args c cc nL own Ts D cl tys) (hr : meth.sig.returnType = some .long) (hk : meth.locks = false) {y : Int} (hd : decode cc pc = .ok (.lreturn, 1)) (hp : post (some (.long (lI y))) x) : GG p l e R s m args below meth c D cl (adr (w x0)) nL 0 0 (MQ below (QcW D cl w x0 post) args s 0 0 (adr (w x0))) w x lv pc [.long (lI y)] :=
  fun H locs ls hP hD hS hl => W.lret C.1 C.2.1 hr (fun t ht _ => ⟨⟨_, x, rfl, hp, by rw [ht]; exact hP⟩, hS.F ht⟩) hS.2.2 hd hk
theorem g_vret (C : CX p s m args c cc nL own Ts D cl tys) (hr : meth.sig.returnType = none) (hk : meth.locks = false) (hd : decode cc pc = .ok (.return_, 1)) (hp : post none x) : GG p l e R s m args below meth c D cl (adr (w x0)) nL 0 0 (MQ below (QcW D cl w x0 post) args s 0 0 (adr (w x0))) w x lv pc [] :=
  fun H locs ls hP hD hS hl => W.vret C.1 C.2.1 hr (fun t ht _ => ⟨⟨_, x, rfl, hp, by rw [ht]; exact hP⟩, hS.F ht⟩) hS.2.2 hd hk
theorem g_run {a : Array Value} {st0 : List Value} (hfix : fixD w) (hn : pc + 3 = n) (hr : ∀ (H : Heap) (locs : List Loc) (ls : Array Slot), va_P D cl (w x) H → va_D A (w x) → lv_has ls nL lv → va_Run p l e R s m args below meth c H locs nc ns 0 0 (F0 m pc ls st0) st (QcW D cl w x post a) (adr (w x)))
    (k : ∀ (v : Option Value) (x' : τ), post v x' → GG p l e R s m args below meth c D cl A nL nc ns Q w x' lv n (v.toList ++ st)) : GG p l e R s m args below meth c D cl A nL nc ns Q w x lv pc st0 := by
  subst hn
  intro H locs ls hP hD hS hl T hT X
  obtain ⟨v, st₀, t, T', L, h0, X', hL, e1, e2, ⟨⟨v', x', hv, hp, hPx⟩, hz, hk⟩, go⟩ := hr H locs ls hP hD hl T hT X
  cases hv
  have hsub : ∀ q, adr (w x) q → A q := fun q hq => by
    obtain ⟨k9, e9, h9⟩ := hq
    exact hD.2 k9 _ h9
  rw [h0] at hz hk
  obtain ⟨t2, a1, b1⟩ := k v x' hp T'.heap (locs ++ L) ls (by rw [e1]; exact hPx) (D_map (hfix x x') hD) ⟨Nat.le_trans hS.1 (by rw [e1]; exact hz), fun q h1 h2 => by
      rw [e1, hk q (Nat.lt_of_lt_of_le h1 hS.1) (fun z => h2 (hsub q z))]; exact hS.2.1 q h1 h2, fun q hq => by
      rcases List.mem_append.mp hq with h | h
      · exact hS.2.2 q h
      · exact hsub _ (hL q h)⟩ hl T' rfl X'
  exact ⟨t2, go t2 a1, b1⟩
end GC
