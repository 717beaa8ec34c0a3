/-! contracts of constructors -/
def PcI (D : va_G) (tys : List (ClassId × FieldType)) (win : va_W) (sz : Nat) (av : List Value) : Array Value → State → Prop := va_Pc av (fun U => U.heap.size = sz ∧ va_P D cls win U.heap ∧ (va_K D cls tys U ∧ NW U ∧ AOW U) ∧ va_D (fun _ => True) win)
def QcI (D : va_G) (win : va_W) (sz : Nat) (wout : (Nat → Nat) → va_W) : Array Value → State → Outcome → State → Prop := fun _ st oc t => (∃ g : Nat → Nat, oc = .returned none ∧ va_P D cls (wout g) t.heap ∧ va_D (va_A win sz) (wout g)) ∧ va_F (va_A win sz) st t
def MI (l : Launch) (D : va_G) (tys : List (ClassId × FieldType)) (y : MethodName) (ws : List Cond) (rm : Room) (av : List Value) (win : va_W) (wout : (Nat → Nat) → va_W) (mc ms : Nat) : Prop := ∀ sz : Nat, Met l y ws rm (PcI D tys win sz av) (QcI D win sz wout) mc ms (va_A win sz)
theorem blindI {D : va_G} {tys : List (ClassId × FieldType)} {win : va_W} {sz : Nat} {av : List Value} : FrameBlind (PcI D tys win sz av) :=
  fun a U g mk q => ⟨q.1, q.2.1, q.2.2.1, ⟨va_K.moved (u := U) (U := U.calling g mk a) (Vm.Alike.refl U.vm) q.2.2.2.1.1, NW.same (u := U) (U := U.calling g mk a) rfl q.2.2.2.1.2.1, AOW.moved (u := U) (U := U.calling g mk a) (Vm.Alike.refl U.vm) q.2.2.2.1.2.2⟩, q.2.2.2.2⟩
theorem MI.go {l : Launch} {D : va_G} {tys : List (ClassId × FieldType)} {y : MethodName} {rm : Room} {av : List Value} {win : va_W} {wout : (Nat → Nat) → va_W} {mc ms : Nat} (cc : ByteArray) (maxL : Nat) (own : String) (lv : List (Nat × Value)) (hy : plainName y.cls = true) (ho : y.cls = own) (hyn : y.name = "<init>") (hlv : lv_args 0 av = lv) (hal : (lg_sl av).length ≤ maxL)
    (body : ∀ (p : Program) (e : Env) (s : State) (m : MethodId) (args : Array Value) (below : List Frame) (meth : Method) (c : Code), CX p s m args c cc maxL own TT D cls tys → AOW s → meth.sig.returnType = none → meth.locks = false → meth.name = "<init>" → (∀ q, s.heap.size ≤ q → va_A win s.heap.size q) →
      GG p l e rm s m args below meth c D cls (va_A win s.heap.size) maxL 0 0 (MQ below (QcI D win s.heap.size wout) args s mc ms (va_A win s.heap.size)) idw win lv 0 []) : MI l D tys y (Cond.code y cc maxL none :: TT) rm av win wout mc ms := by
  intro sz
  refine Met.ofW (cc := cc) (maxL := maxL) (ret := none) hy rfl ?_
  intro p e s m args below meth c s₁ B hml hv
  obtain ⟨rfl, hsz, hP, ⟨hK, hN, hO⟩, hD⟩ := hv
  subst hsz
  have hts := atoms_spec (ws := Cond.code y cc maxL none :: TT) B.pre
  have hown : s.vm.findClass y.cls = some m.cls := findClass_of_methodNamed B.named
  rw [ho] at hown
  have hl := lv_entry av (n := maxL) hal
  rw [lg_entry_eq]
  rw [hlv] at hl
  exact body p e s m av.toArray below meth c ⟨B.exec, B.bytes, hml, hown, fun w hw => hts w (List.mem_cons_of_mem _ hw), hK, hN⟩ hO B.returns B.notSynchronized ((name_of_methodNamed B.named B.method).1.trans hyn) (fun q h => Or.inr h) s.heap [] _ hP hD.self va_S.rf hl
section MC
variable {p : Program} {l : Launch} {e : Env} {R : Room} {s : State} {m : MethodId} {args : Array Value} {below : List Frame} {meth : Method} {c : Code} {D : va_G} {tys : List (ClassId × FieldType)} {A : Nat → Prop} {nL nc ns mc ms : Nat} {Q : State → Prop} {cc : ByteArray} {own : String} {lv : List (Nat × Value)} {pc n : Nat} {st st0 : List Value} {ws wr win : va_W} {wout : (Nat → Nat) → va_W}
theorem g_vretI (C : CX p s m args c cc nL own TT D cls tys) (hr : meth.sig.returnType = none) (hk : meth.locks = false) (g : Nat → Nat) (hPs : ∀ H, va_P D cls ws H → va_P D cls (wout g) H) (hDs : ∀ B, va_D B ws → va_D B (wout g)) (hd : decode cc pc = .ok (.return_, 1)) : GG p l e R s m args below meth c D cls (va_A win s.heap.size) nL mc ms (MQ below (QcI D win s.heap.size wout) args s mc ms (va_A win s.heap.size)) idw ws lv pc [] :=
  fun H locs ls hP hD hS hl => W.vret C.1 C.2.1 hr (fun t ht _ => ⟨⟨g, rfl, by rw [ht]; exact hPs _ hP, hDs _ hD⟩, hS.F ht⟩) hS.2.2 hd hk
theorem g_ciR {a : Array Value} (hA : ∀ q, s.heap.size ≤ q → A q) (hn : pc + 3 = n) (hr : ∀ (H : Heap) (locs : List Loc) (ls : Array Slot), va_P D cls (wr ++ win) H → va_D A (wr ++ win) → lv_has ls nL lv → va_Run p l e R s m args below meth c H locs nc ns mc ms (F0 m pc ls st0) st (QcI D win H.size wout a) (va_A win H.size))
    (k : ∀ g : Nat → Nat, GG p l e R s m args below meth c D cls A nL (nc + mc) (ns + ms) Q idw (wr ++ wout g) lv n st) : GG p l e R s m args below meth c D cls A nL nc ns Q idw (wr ++ win) lv pc st0 := by
  subst hn
  intro H locs ls hP hD hS hl T hT X
  obtain ⟨v, st₀, t, T', L, h0, X', hL, e1, e2, ⟨⟨g, hv, hPg, hDg⟩, hz, hk⟩, go⟩ := hr H locs ls hP hD hl T hT X
  cases hv
  rw [h0] at hz hk
  have hsub : ∀ q, va_A win H.size q → A q := fun q hq => by
    rcases hq with ⟨k9, e9, h9⟩ | hq
    · exact (D_right hD).2 k9 _ h9
    · exact hA q (Nat.le_trans hS.1 hq)
  have hout : ∀ (k9 : Nat) (x : Nat × va_E), wr[k9]? = some x → x.1 < H.size ∧ ¬ va_A win H.size x.1 := fun k9 x h9 => by
    have hlt := ((P_left hP) k9 x h9).lt
    refine ⟨hlt, fun q => ?_⟩
    rcases q with ⟨k8, e8, h8⟩ | q
    · exact D_cross hD ⟨k9, x.2, h9⟩ ⟨k8, e8, h8⟩
    · omega
  have hP1 : va_P D cls wr t.heap := (P_left hP).kept (fun k9 x h9 => hk x.1 (hout k9 x h9).1 (hout k9 x h9).2)
  have hD2 : va_D A (wr ++ wout g) := by
    have key : ∀ (k : Nat) (x : Nat × va_E), (wr ++ wout g)[k]? = some x → (wr[k]? = some x ∧ ¬ va_A win H.size x.1) ∨ (wr.length ≤ k ∧ (wout g)[k - wr.length]? = some x ∧ va_A win H.size x.1) := fun k x hk => by
      by_cases c : k < wr.length
      · rw [List.getElem?_append_left c] at hk
        exact Or.inl ⟨hk, (hout k x hk).2⟩
      · rw [List.getElem?_append_right (by omega)] at hk
        exact Or.inr ⟨by omega, hk, hDg.2 _ x hk⟩
    refine ⟨fun i j x y hi hj hxy => ?_, fun k x hk => ?_⟩
    · rcases key i x hi with ⟨a1, a2⟩ | ⟨a0, a1, a2⟩ <;> rcases key j y hj with ⟨b1, b2⟩ | ⟨b0, b1, b2⟩
      · exact (D_left hD).1 i j x y a1 b1 hxy
      · rw [hxy] at a2; exact absurd b2 a2
      · rw [hxy] at a2; exact absurd a2 b2
      · have := hDg.1 _ _ x y a1 b1 hxy
        omega
    · rcases key k x hk with ⟨a1, -⟩ | ⟨-, -, a2⟩
      · exact (D_left hD).2 k x a1
      · exact hsub _ a2
  obtain ⟨t2, a1, b1⟩ := k g T'.heap (locs ++ L) ls (by rw [e1]; exact hP1.app hPg) hD2 ⟨Nat.le_trans hS.1 (by rw [e1]; exact hz), fun q h1 h2 => by
      rw [e1, hk q (Nat.lt_of_lt_of_le h1 hS.1) (fun z => h2 (hsub q z))]; exact hS.2.1 q h1 h2, fun q hq => by
      rcases List.mem_append.mp hq with h | h
      · exact hS.2.2 q h
      · exact hsub _ (hL q h)⟩ hl T' rfl X'
  exact ⟨t2, go t2 a1, b1⟩
theorem preI {H : Heap} {av : List Value} (C : CX p s m args c cc nL own TT D cls tys) (hO : AOW s) (hP : va_P D cls (wr ++ win) H) (hD : va_D A (wr ++ win)) : PreS s H (PcI D tys win H.size av) av :=
  ⟨blindI, fun U hU hW => ⟨rfl, by rw [hU], by rw [hU]; exact P_right hP, ⟨va_K.moved hW.alike C.2.2.2.2.2.1, NW.warm hW C.2.2.2.2.2.2, AOW.moved hW.alike hO⟩, (D_right hD).weaken (fun _ _ _ _ => trivial)⟩⟩
/-- a constructor's call: by its contract; a nest mate's -/
theorem g_ci (C : CX p s m args c cc nL own TT D cls tys) (hO : AOW s) (hA : ∀ q, s.heap.size ≤ q → A q) {y : MethodName} {bytes : ByteArray} {maxL index b : Nat} {rm : Room} {As : List Value} (hM : MI l D tys y (Cond.code y bytes maxL none :: TT) rm (.ref b :: As) win wout mc ms) (n0 : Nat) (kc : Cond.code y bytes maxL none ∈ TT) (kl : Cond.methodLink own index y ∈ TT) (ki : Cond.instanceMethod y ∈ TT) (kn : Cond.initialized y.cls ∈ TT) (hyn : y.name = "<init>")
    (hy : y.cls ≠ "java/lang/invoke/MethodHandle" ∧ y.cls ≠ "java/lang/invoke/VarHandle" ∧ (parseMethodDescriptor y.desc).map (fun d => d.parameters.length) = some n0) (hrm : rm.cells = mc ∧ rm.slots = ms) (hR : rm.frames + 1 ≤ R.frames ∧ 8 + (maxL + 11) + rm.locals ≤ R.locals) (hf : nc + mc ≤ R.cells ∧ ns + ms ≤ R.slots) (hst : st0 = As.reverse ++ .ref b :: st) (hn0 : As.length = n0) (hro : (st.map fun v => v.category).sum ≤ 8) (hd : decode cc pc = .ok (.invokespecial index, 3)) (hn : pc + 3 = n)
    (k : ∀ g : Nat → Nat, GG p l e R s m args below meth c D cls A nL (nc + mc) (ns + ms) Q idw (wr ++ wout g) lv n st) : GG p l e R s m args below meth c D cls A nL nc ns Q idw (wr ++ win) lv pc st0 :=
  g_ciR hA hn (fun H locs ls hP hD hl => va_runI (Ts := TT) ⟨C.1, C.2.1, C.2.2.1, C.2.2.2.1, C.2.2.2.2.1⟩ (hM H.size) ⟨callB_of n0 C.2.2.2.2.1 (gd_law kc) rfl hrm.1 hrm.2 (C.2.2.2.2.1 _ kn) (C.2.2.2.2.1 _ kl) hy hR, hyn, C.2.2.2.2.1 _ ki⟩ (preI C hO hP hD) rfl hn0 hl.1 hst (lv_room hro) hd hf) k
theorem g_ciN (C : CX p s m args c cc nL own TT D cls tys) (hO : AOW s) (hA : ∀ q, s.heap.size ≤ q → A q) {y : MethodName} {bytes : ByteArray} {maxL index b : Nat} {rm : Room} {As : List Value} {host : String} (hM : MI l D tys y (Cond.code y bytes maxL none :: TT) rm (.ref b :: As) win wout mc ms) (n0 : Nat) (kc : Cond.code y bytes maxL none ∈ TT) (kl : Cond.methodLinkNest own index y host ∈ NN) (ki : Cond.instanceMethod y ∈ TT) (kn : Cond.initialized y.cls ∈ TT) (hyn : y.name = "<init>")
    (hy : y.cls ≠ "java/lang/invoke/MethodHandle" ∧ y.cls ≠ "java/lang/invoke/VarHandle" ∧ (parseMethodDescriptor y.desc).map (fun d => d.parameters.length) = some n0) (hrm : rm.cells = mc ∧ rm.slots = ms) (hR : rm.frames + 1 ≤ R.frames ∧ 8 + (maxL + 11) + rm.locals ≤ R.locals) (hf : nc + mc ≤ R.cells ∧ ns + ms ≤ R.slots) (hst : st0 = As.reverse ++ .ref b :: st) (hn0 : As.length = n0) (hro : (st.map fun v => v.category).sum ≤ 8) (hd : decode cc pc = .ok (.invokespecial index, 3)) (hn : pc + 3 = n)
    (k : ∀ g : Nat → Nat, GG p l e R s m args below meth c D cls A nL (nc + mc) (ns + ms) Q idw (wr ++ wout g) lv n st) : GG p l e R s m args below meth c D cls A nL nc ns Q idw (wr ++ win) lv pc st0 :=
  g_ciR hA hn (fun H locs ls hP hD hl => va_runIN (Ts := TT) ⟨C.1, C.2.1, C.2.2.1, C.2.2.2.1, C.2.2.2.2.1⟩ (hM H.size) ⟨va_cnB n0 C.2.2.2.2.1 (gd_law kc) rfl hrm.1 hrm.2 (C.2.2.2.2.2.2 _ kl) (C.2.2.2.2.1 _ kn) hy hR, hyn, C.2.2.2.2.1 _ ki⟩ (preI C hO hP hD) rfl hn0 hl.1 hst (lv_room hro) hd hf) k
theorem g_world {ws' : va_W} (h : ws = ws') (k : GG p l e R s m args below meth c D cls A nL nc ns Q idw ws' lv pc st) : GG p l e R s m args below meth c D cls A nL nc ns Q idw ws lv pc st := h ▸ k
end MC

abbrev ri_G : Room := { frames := 1, cells := 15, slots := 276, locals := 20 }
abbrev wo_G (ki kz kl kq : ClassId) (h0 : Nat) (g : Nat → Nat) : va_W := [(h0, .inr (1, [.int (iI 0), .int (iI 0), .ref (g 0), .ref (g 1), .ref (g 2), .ref (g 3), .ref (g 4), .ref ((g 5)), .ref (g 14)])), ((g 0), .inl (ki, 20, .inl (ia zf))), ((g 1), .inl (ki, 20, .inl (ia zf))), ((g 2), .inl (ki, 20, .inl (ia zf))), ((g 3), .inl (ki, 20, .inl (ia zf))), ((g 4), .inl (kz, 20, .inl (ia zf))), ((g 5), .inl (kq, 8, .inr (.inr (.inr (.inr (fun i => if i < 8 then some (g (6 + i)) else none)))))), ((g 6), .inl (ki, 20, .inl (ia zf))), ((g 7), .inl (ki, 20, .inl (ia zf))), ((g 8), .inl (ki, 20, .inl (ia zf))), ((g 9), .inl (ki, 20, .inl (ia zf))), ((g 10), .inl (ki, 20, .inl (ia zf))), ((g 11), .inl (ki, 20, .inl (ia zf))), ((g 12), .inl (ki, 20, .inl (ia zf))), ((g 13), .inl (ki, 20, .inl (ia zf))), ((g 14), .inl (ki, 8, .inl (ia zf)))]
theorem eq_G {ki kz kl kq : ClassId} {h0 : Nat} {q0 q1 q2 q3 q4 q14 : Nat} {f : Nat → Nat} : wo_G ki kz kl kq h0 (fun j => if j < 5 then [q0, q1, q2, q3, q4].getD j 0 else if j < 14 then f (j - 5) else q14) = [(h0, .inr (1, [.int (iI 0), .int (iI 0), .ref q0, .ref q1, .ref q2, .ref q3, .ref q4, .ref (f 0), .ref q14])), (q0, .inl (ki, 20, .inl (ia zf))), (q1, .inl (ki, 20, .inl (ia zf))), (q2, .inl (ki, 20, .inl (ia zf))), (q3, .inl (ki, 20, .inl (ia zf))), (q4, .inl (kz, 20, .inl (ia zf))), (f 0, .inl (kq, 8, .inr (.inr (.inr (.inr (fun i => if i < 8 then some (f (1 + i)) else none)))))), (f 1, .inl (ki, 20, .inl (ia zf))), (f 2, .inl (ki, 20, .inl (ia zf))), (f 3, .inl (ki, 20, .inl (ia zf))), (f 4, .inl (ki, 20, .inl (ia zf))), (f 5, .inl (ki, 20, .inl (ia zf))), (f 6, .inl (ki, 20, .inl (ia zf))), (f 7, .inl (ki, 20, .inl (ia zf))), (f 8, .inl (ki, 20, .inl (ia zf))), (q14, .inl (ki, 8, .inl (ia zf)))] := by
  have hg : (fun i => if i < 8 then some ((fun j => if j < 5 then [q0, q1, q2, q3, q4].getD j 0 else if j < 14 then f (j - 5) else q14) (6 + i)) else none) = (fun i => if i < 8 then some (f (1 + i)) else none) := by
    funext i
    by_cases hi : i < 8
    · rw [if_pos hi, if_pos hi]
      show some (if 6 + i < 5 then _ else if 6 + i < 14 then f (6 + i - 5) else _) = _
      rw [if_neg (by omega), if_pos (by omega), show 6 + i - 5 = 1 + i by omega]
    · rw [if_neg hi, if_neg hi]
  unfold wo_G
  rw [hg]
  rfl

set_option maxRecDepth 100000 in
set_option maxHeartbeats 4000000 in
theorem c_G_init {l : Launch} {D : va_G} {ki kz kl kq : ClassId} {h0  : Nat} : MI l D (tyz ki kz kl kq) y_G_init (Cond.code y_G_init b_G_init 1 none :: TT) ri_G [.ref h0] [(h0, .inr (1, [.int (iI 0), .int (iI 0), .null, .null, .null, .null, .null, .null, .null]))] (wo_G ki kz kl kq h0 ) 15 276 := by
  refine MI.go b_G_init 1 "NextPaths$Graph" [(0, .ref h0)] (by decide) rfl rfl rfl (Nat.le_of_ble_eq_true rfl) ?_
  intro p e s m args below meth c C hO hr hk hin hA
  refine g_aload_n C d_G_init_0 rfl rfl ?_
  refine g_obj C k_G_3 d_G_init_1 rfl (by decide) (by decide) ?_
  refine g_aload_n C d_G_init_4 rfl rfl ?_
  refine g_bipush (z := 20) C d_G_init_5 rfl (by decide) ?_
  refine g_newI (N := 20) C hA rfl (by decide) (by decide) (by decide) d_G_init_7 rfl (fun q0 => ?_)
  refine g_world (ws' := [(h0, .inr (1, [.int (iI 0), .int (iI 0), .null, .null, .null, .null, .null, .null, .null])), (q0, .inl (ki, 20, .inl (ia zf)))]) rfl ?_
  refine g_putF (ty := (.array .int)) (x' := [(h0, .inr (1, [.int (iI 0), .int (iI 0), .ref q0, .null, .null, .null, .null, .null, .null])), (q0, .inl (ki, 20, .inl (ia zf)))]) C hin 0 2 ty_G i_G ty_G_ok n_G rfl rfl (by decide) k_G_9 rfl rfl (by decide +kernel) rfl rfl (Nat.le_of_ble_eq_true rfl) rfl d_G_init_9 rfl ?_
  refine g_aload_n C d_G_init_12 rfl rfl ?_
  refine g_bipush (z := 20) C d_G_init_13 rfl (by decide) ?_
  refine g_newI (N := 20) C hA rfl (by decide) (by decide) (by decide) d_G_init_15 rfl (fun q1 => ?_)
  refine g_world (ws' := [(h0, .inr (1, [.int (iI 0), .int (iI 0), .ref q0, .null, .null, .null, .null, .null, .null])), (q0, .inl (ki, 20, .inl (ia zf))), (q1, .inl (ki, 20, .inl (ia zf)))]) rfl ?_
  refine g_putF (ty := (.array .int)) (x' := [(h0, .inr (1, [.int (iI 0), .int (iI 0), .ref q0, .ref q1, .null, .null, .null, .null, .null])), (q0, .inl (ki, 20, .inl (ia zf))), (q1, .inl (ki, 20, .inl (ia zf)))]) C hin 0 3 ty_G i_G ty_G_ok n_G rfl rfl (by decide) k_G_15 rfl rfl (by decide +kernel) rfl rfl (Nat.le_of_ble_eq_true rfl) rfl d_G_init_17 rfl ?_
  refine g_aload_n C d_G_init_20 rfl rfl ?_
  refine g_bipush (z := 20) C d_G_init_21 rfl (by decide) ?_
  refine g_newI (N := 20) C hA rfl (by decide) (by decide) (by decide) d_G_init_23 rfl (fun q2 => ?_)
  refine g_world (ws' := [(h0, .inr (1, [.int (iI 0), .int (iI 0), .ref q0, .ref q1, .null, .null, .null, .null, .null])), (q0, .inl (ki, 20, .inl (ia zf))), (q1, .inl (ki, 20, .inl (ia zf))), (q2, .inl (ki, 20, .inl (ia zf)))]) rfl ?_
  refine g_putF (ty := (.array .int)) (x' := [(h0, .inr (1, [.int (iI 0), .int (iI 0), .ref q0, .ref q1, .ref q2, .null, .null, .null, .null])), (q0, .inl (ki, 20, .inl (ia zf))), (q1, .inl (ki, 20, .inl (ia zf))), (q2, .inl (ki, 20, .inl (ia zf)))]) C hin 0 4 ty_G i_G ty_G_ok n_G rfl rfl (by decide) k_G_18 rfl rfl (by decide +kernel) rfl rfl (Nat.le_of_ble_eq_true rfl) rfl d_G_init_25 rfl ?_
  refine g_aload_n C d_G_init_28 rfl rfl ?_
  refine g_bipush (z := 20) C d_G_init_29 rfl (by decide) ?_
  refine g_newI (N := 20) C hA rfl (by decide) (by decide) (by decide) d_G_init_31 rfl (fun q3 => ?_)
  refine g_world (ws' := [(h0, .inr (1, [.int (iI 0), .int (iI 0), .ref q0, .ref q1, .ref q2, .null, .null, .null, .null])), (q0, .inl (ki, 20, .inl (ia zf))), (q1, .inl (ki, 20, .inl (ia zf))), (q2, .inl (ki, 20, .inl (ia zf))), (q3, .inl (ki, 20, .inl (ia zf)))]) rfl ?_
  refine g_putF (ty := (.array .int)) (x' := [(h0, .inr (1, [.int (iI 0), .int (iI 0), .ref q0, .ref q1, .ref q2, .ref q3, .null, .null, .null])), (q0, .inl (ki, 20, .inl (ia zf))), (q1, .inl (ki, 20, .inl (ia zf))), (q2, .inl (ki, 20, .inl (ia zf))), (q3, .inl (ki, 20, .inl (ia zf)))]) C hin 0 5 ty_G i_G ty_G_ok n_G rfl rfl (by decide) k_G_21 rfl rfl (by decide +kernel) rfl rfl (Nat.le_of_ble_eq_true rfl) rfl d_G_init_33 rfl ?_
  refine g_aload_n C d_G_init_36 rfl rfl ?_
  refine g_bipush (z := 20) C d_G_init_37 rfl (by decide) ?_
  refine g_newZ (N := 20) C hA rfl (by decide) (by decide) (by decide) d_G_init_39 rfl (fun q4 => ?_)
  refine g_world (ws' := [(h0, .inr (1, [.int (iI 0), .int (iI 0), .ref q0, .ref q1, .ref q2, .ref q3, .null, .null, .null])), (q0, .inl (ki, 20, .inl (ia zf))), (q1, .inl (ki, 20, .inl (ia zf))), (q2, .inl (ki, 20, .inl (ia zf))), (q3, .inl (ki, 20, .inl (ia zf))), (q4, .inl (kz, 20, .inl (ia zf)))]) rfl ?_
  refine g_putF (ty := (.array .boolean)) (x' := [(h0, .inr (1, [.int (iI 0), .int (iI 0), .ref q0, .ref q1, .ref q2, .ref q3, .ref q4, .null, .null])), (q0, .inl (ki, 20, .inl (ia zf))), (q1, .inl (ki, 20, .inl (ia zf))), (q2, .inl (ki, 20, .inl (ia zf))), (q3, .inl (ki, 20, .inl (ia zf))), (q4, .inl (kz, 20, .inl (ia zf)))]) C hin 0 6 ty_G i_G ty_G_ok n_G rfl rfl (by decide) k_G_24 rfl rfl (by decide +kernel) rfl rfl (Nat.le_of_ble_eq_true rfl) rfl d_G_init_41 rfl ?_
  refine g_aload_n C d_G_init_44 rfl rfl ?_
  refine g_bipush (z := 8) C d_G_init_45 rfl (by decide) ?_
  refine g_bipush (z := 20) C d_G_init_47 rfl (by decide) ?_
  refine g_mna C hA hO k_G_28 (by decide) (by decide) d_G_init_49 rfl (fun f => ?_)
  refine g_world (ws' := [(h0, .inr (1, [.int (iI 0), .int (iI 0), .ref q0, .ref q1, .ref q2, .ref q3, .ref q4, .null, .null])), (q0, .inl (ki, 20, .inl (ia zf))), (q1, .inl (ki, 20, .inl (ia zf))), (q2, .inl (ki, 20, .inl (ia zf))), (q3, .inl (ki, 20, .inl (ia zf))), (q4, .inl (kz, 20, .inl (ia zf))), (f 0, .inl (kq, 8, .inr (.inr (.inr (.inr (fun i => if i < 8 then some (f (1 + i)) else none)))))), (f 1, .inl (ki, 20, .inl (ia zf))), (f 2, .inl (ki, 20, .inl (ia zf))), (f 3, .inl (ki, 20, .inl (ia zf))), (f 4, .inl (ki, 20, .inl (ia zf))), (f 5, .inl (ki, 20, .inl (ia zf))), (f 6, .inl (ki, 20, .inl (ia zf))), (f 7, .inl (ki, 20, .inl (ia zf))), (f 8, .inl (ki, 20, .inl (ia zf)))]) rfl ?_
  refine g_putF (ty := (.array (.array .int))) (x' := [(h0, .inr (1, [.int (iI 0), .int (iI 0), .ref q0, .ref q1, .ref q2, .ref q3, .ref q4, .ref (f 0), .null])), (q0, .inl (ki, 20, .inl (ia zf))), (q1, .inl (ki, 20, .inl (ia zf))), (q2, .inl (ki, 20, .inl (ia zf))), (q3, .inl (ki, 20, .inl (ia zf))), (q4, .inl (kz, 20, .inl (ia zf))), (f 0, .inl (kq, 8, .inr (.inr (.inr (.inr (fun i => if i < 8 then some (f (1 + i)) else none)))))), (f 1, .inl (ki, 20, .inl (ia zf))), (f 2, .inl (ki, 20, .inl (ia zf))), (f 3, .inl (ki, 20, .inl (ia zf))), (f 4, .inl (ki, 20, .inl (ia zf))), (f 5, .inl (ki, 20, .inl (ia zf))), (f 6, .inl (ki, 20, .inl (ia zf))), (f 7, .inl (ki, 20, .inl (ia zf))), (f 8, .inl (ki, 20, .inl (ia zf)))]) C hin 0 7 ty_G i_G ty_G_ok n_G rfl rfl (by decide) k_G_30 rfl rfl (by decide +kernel) rfl rfl (Nat.le_of_ble_eq_true rfl) rfl d_G_init_53 rfl ?_
  refine g_aload_n C d_G_init_56 rfl rfl ?_
  refine g_bipush (z := 8) C d_G_init_57 rfl (by decide) ?_
  refine g_newI (N := 8) C hA rfl (by decide) (by decide) (by decide) d_G_init_59 rfl (fun q14 => ?_)
  refine g_world (ws' := [(h0, .inr (1, [.int (iI 0), .int (iI 0), .ref q0, .ref q1, .ref q2, .ref q3, .ref q4, .ref (f 0), .null])), (q0, .inl (ki, 20, .inl (ia zf))), (q1, .inl (ki, 20, .inl (ia zf))), (q2, .inl (ki, 20, .inl (ia zf))), (q3, .inl (ki, 20, .inl (ia zf))), (q4, .inl (kz, 20, .inl (ia zf))), (f 0, .inl (kq, 8, .inr (.inr (.inr (.inr (fun i => if i < 8 then some (f (1 + i)) else none)))))), (f 1, .inl (ki, 20, .inl (ia zf))), (f 2, .inl (ki, 20, .inl (ia zf))), (f 3, .inl (ki, 20, .inl (ia zf))), (f 4, .inl (ki, 20, .inl (ia zf))), (f 5, .inl (ki, 20, .inl (ia zf))), (f 6, .inl (ki, 20, .inl (ia zf))), (f 7, .inl (ki, 20, .inl (ia zf))), (f 8, .inl (ki, 20, .inl (ia zf))), (q14, .inl (ki, 8, .inl (ia zf)))]) rfl ?_
  refine g_putF (ty := (.array .int)) (x' := [(h0, .inr (1, [.int (iI 0), .int (iI 0), .ref q0, .ref q1, .ref q2, .ref q3, .ref q4, .ref (f 0), .ref q14])), (q0, .inl (ki, 20, .inl (ia zf))), (q1, .inl (ki, 20, .inl (ia zf))), (q2, .inl (ki, 20, .inl (ia zf))), (q3, .inl (ki, 20, .inl (ia zf))), (q4, .inl (kz, 20, .inl (ia zf))), (f 0, .inl (kq, 8, .inr (.inr (.inr (.inr (fun i => if i < 8 then some (f (1 + i)) else none)))))), (f 1, .inl (ki, 20, .inl (ia zf))), (f 2, .inl (ki, 20, .inl (ia zf))), (f 3, .inl (ki, 20, .inl (ia zf))), (f 4, .inl (ki, 20, .inl (ia zf))), (f 5, .inl (ki, 20, .inl (ia zf))), (f 6, .inl (ki, 20, .inl (ia zf))), (f 7, .inl (ki, 20, .inl (ia zf))), (f 8, .inl (ki, 20, .inl (ia zf))), (q14, .inl (ki, 8, .inl (ia zf)))]) C hin 0 8 ty_G i_G ty_G_ok n_G rfl rfl (by decide) k_G_33 rfl rfl (by decide +kernel) rfl rfl (Nat.le_of_ble_eq_true rfl) rfl d_G_init_61 rfl ?_
  refine g_vretI C hr hk (fun j => if j < 5 then [q0, q1, q2, q3, q4].getD j 0 else if j < 14 then f (j - 5) else q14) (fun H h => ?_) (fun B h => ?_) d_G_init_64
  · rw [show wo_G ki kz kl kq h0  (fun j => if j < 5 then [q0, q1, q2, q3, q4].getD j 0 else if j < 14 then f (j - 5) else q14) = [(h0, .inr (1, [.int (iI 0), .int (iI 0), .ref q0, .ref q1, .ref q2, .ref q3, .ref q4, .ref (f 0), .ref q14])), (q0, .inl (ki, 20, .inl (ia zf))), (q1, .inl (ki, 20, .inl (ia zf))), (q2, .inl (ki, 20, .inl (ia zf))), (q3, .inl (ki, 20, .inl (ia zf))), (q4, .inl (kz, 20, .inl (ia zf))), (f 0, .inl (kq, 8, .inr (.inr (.inr (.inr (fun i => if i < 8 then some (f (1 + i)) else none)))))), (f 1, .inl (ki, 20, .inl (ia zf))), (f 2, .inl (ki, 20, .inl (ia zf))), (f 3, .inl (ki, 20, .inl (ia zf))), (f 4, .inl (ki, 20, .inl (ia zf))), (f 5, .inl (ki, 20, .inl (ia zf))), (f 6, .inl (ki, 20, .inl (ia zf))), (f 7, .inl (ki, 20, .inl (ia zf))), (f 8, .inl (ki, 20, .inl (ia zf))), (q14, .inl (ki, 8, .inl (ia zf)))] from ?_]
    · exact h
    · exact eq_G
  · rw [show wo_G ki kz kl kq h0  (fun j => if j < 5 then [q0, q1, q2, q3, q4].getD j 0 else if j < 14 then f (j - 5) else q14) = [(h0, .inr (1, [.int (iI 0), .int (iI 0), .ref q0, .ref q1, .ref q2, .ref q3, .ref q4, .ref (f 0), .ref q14])), (q0, .inl (ki, 20, .inl (ia zf))), (q1, .inl (ki, 20, .inl (ia zf))), (q2, .inl (ki, 20, .inl (ia zf))), (q3, .inl (ki, 20, .inl (ia zf))), (q4, .inl (kz, 20, .inl (ia zf))), (f 0, .inl (kq, 8, .inr (.inr (.inr (.inr (fun i => if i < 8 then some (f (1 + i)) else none)))))), (f 1, .inl (ki, 20, .inl (ia zf))), (f 2, .inl (ki, 20, .inl (ia zf))), (f 3, .inl (ki, 20, .inl (ia zf))), (f 4, .inl (ki, 20, .inl (ia zf))), (f 5, .inl (ki, 20, .inl (ia zf))), (f 6, .inl (ki, 20, .inl (ia zf))), (f 7, .inl (ki, 20, .inl (ia zf))), (f 8, .inl (ki, 20, .inl (ia zf))), (q14, .inl (ki, 8, .inl (ia zf)))] from ?_]
    · exact h
    · exact eq_G

abbrev ri_H : Room := { frames := 1, cells := 1, slots := 1458, locals := 20 }
abbrev wo_H (ki kz kl kq : ClassId) (h0 : Nat) (g : Nat → Nat) : va_W := [(h0, .inr (2, [.ref (g 0), .int (iI 0)])), ((g 0), .inl (kl, 1458, .inr (.inl (la zf))))]
set_option maxRecDepth 100000 in
set_option maxHeartbeats 4000000 in
theorem c_H_init {l : Launch} {D : va_G} {ki kz kl kq : ClassId} {h0  : Nat} : MI l D (tyz ki kz kl kq) y_H_init (Cond.code y_H_init b_H_init 1 none :: TT) ri_H [.ref h0] [(h0, .inr (2, [.null, .int (iI 0)]))] (wo_H ki kz kl kq h0 ) 1 1458 := by
  refine MI.go b_H_init 1 "NextPaths$PathHeap" [(0, .ref h0)] (by decide) rfl rfl rfl (Nat.le_of_ble_eq_true rfl) ?_
  intro p e s m args below meth c C hO hr hk hin hA
  refine g_aload_n C d_H_init_0 rfl rfl ?_
  refine g_obj C k_H_3 d_H_init_1 rfl (by decide) (by decide) ?_
  refine g_aload_n C d_H_init_4 rfl rfl ?_
  refine g_sipush (z := 1458) C d_H_init_5 rfl (by decide) ?_
  refine g_newL (N := 1458) C hA rfl (by decide) (by decide) (by decide) d_H_init_8 rfl (fun q0 => ?_)
  refine g_world (ws' := [(h0, .inr (2, [.null, .int (iI 0)])), (q0, .inl (kl, 1458, .inr (.inl (la zf))))]) rfl ?_
  refine g_putF (ty := (.array .long)) (x' := [(h0, .inr (2, [.ref q0, .int (iI 0)])), (q0, .inl (kl, 1458, .inr (.inl (la zf))))]) C hin 0 0 ty_H i_H ty_H_ok n_H rfl rfl (by decide) k_H_9 rfl rfl (by decide +kernel) rfl rfl (Nat.le_of_ble_eq_true rfl) rfl d_H_init_10 rfl ?_
  exact g_vretI C hr hk (fun j => [q0].getD j 0) (fun _ h => h) (fun _ h => h) d_H_init_13

abbrev ri_P : Room := { frames := 1, cells := 2, slots := 15, locals := 20 }
abbrev wo_P (ki kz kl kq : ClassId) (h0 b1 b2 : Nat) (g : Nat → Nat) : va_W := [(h0, .inr (3, [.ref b1, .ref b2, .ref (g 0), .ref (g 1), .int (iI 0)])), ((g 0), .inl (kz, 8, .inl (ia zf))), ((g 1), .inl (ki, 7, .inl (ia zf)))]
set_option maxRecDepth 100000 in
set_option maxHeartbeats 4000000 in
theorem c_P_init {l : Launch} {D : va_G} {ki kz kl kq : ClassId} {h0 b1 b2 : Nat} : MI l D (tyz ki kz kl kq) y_P_init (Cond.code y_P_init b_P_init 3 none :: TT) ri_P [.ref h0, .ref b1, .ref b2] [(h0, .inr (3, [.null, .null, .null, .null, .int (iI 0)]))] (wo_P ki kz kl kq h0 b1 b2) 2 15 := by
  refine MI.go b_P_init 3 "NextPaths$PathFinder" [(0, .ref h0), (1, .ref b1), (2, .ref b2)] (by decide) rfl rfl rfl (Nat.le_of_ble_eq_true rfl) ?_
  intro p e s m args below meth c C hO hr hk hin hA
  refine g_aload_n C d_P_init_0 rfl rfl ?_
  refine g_obj C k_P_3 d_P_init_1 rfl (by decide) (by decide) ?_
  refine g_aload_n C d_P_init_4 rfl rfl ?_
  refine g_bipush (z := 8) C d_P_init_5 rfl (by decide) ?_
  refine g_newZ (N := 8) C hA rfl (by decide) (by decide) (by decide) d_P_init_7 rfl (fun q0 => ?_)
  refine g_world (ws' := [(h0, .inr (3, [.null, .null, .null, .null, .int (iI 0)])), (q0, .inl (kz, 8, .inl (ia zf)))]) rfl ?_
  refine g_putF (ty := (.array .boolean)) (x' := [(h0, .inr (3, [.null, .null, .ref q0, .null, .int (iI 0)])), (q0, .inl (kz, 8, .inl (ia zf)))]) C hin 0 2 ty_P i_P ty_P_ok n_P rfl rfl (by decide) k_P_9 rfl rfl (by decide +kernel) rfl rfl (Nat.le_of_ble_eq_true rfl) rfl d_P_init_9 rfl ?_
  refine g_aload_n C d_P_init_12 rfl rfl ?_
  refine g_bipush (z := 7) C d_P_init_13 rfl (by decide) ?_
  refine g_newI (N := 7) C hA rfl (by decide) (by decide) (by decide) d_P_init_15 rfl (fun q1 => ?_)
  refine g_world (ws' := [(h0, .inr (3, [.null, .null, .ref q0, .null, .int (iI 0)])), (q0, .inl (kz, 8, .inl (ia zf))), (q1, .inl (ki, 7, .inl (ia zf)))]) rfl ?_
  refine g_putF (ty := (.array .int)) (x' := [(h0, .inr (3, [.null, .null, .ref q0, .ref q1, .int (iI 0)])), (q0, .inl (kz, 8, .inl (ia zf))), (q1, .inl (ki, 7, .inl (ia zf)))]) C hin 0 3 ty_P i_P ty_P_ok n_P rfl rfl (by decide) k_P_15 rfl rfl (by decide +kernel) rfl rfl (Nat.le_of_ble_eq_true rfl) rfl d_P_init_17 rfl ?_
  refine g_aload_n C d_P_init_20 rfl rfl ?_
  refine g_aload_n C d_P_init_21 rfl rfl ?_
  refine g_putF (ty := (.object "NextPaths$Graph")) (x' := [(h0, .inr (3, [.ref b1, .null, .ref q0, .ref q1, .int (iI 0)])), (q0, .inl (kz, 8, .inl (ia zf))), (q1, .inl (ki, 7, .inl (ia zf)))]) C hin 0 0 ty_P i_P ty_P_ok n_P rfl rfl (by decide) k_P_19 rfl rfl (by decide +kernel) rfl rfl (Nat.le_of_ble_eq_true rfl) rfl d_P_init_22 rfl ?_
  refine g_aload_n C d_P_init_25 rfl rfl ?_
  refine g_aload_n C d_P_init_26 rfl rfl ?_
  refine g_putF (ty := (.object "NextPaths$PathHeap")) (x' := [(h0, .inr (3, [.ref b1, .ref b2, .ref q0, .ref q1, .int (iI 0)])), (q0, .inl (kz, 8, .inl (ia zf))), (q1, .inl (ki, 7, .inl (ia zf)))]) C hin 0 1 ty_P i_P ty_P_ok n_P rfl rfl (by decide) k_P_23 rfl rfl (by decide +kernel) rfl rfl (Nat.le_of_ble_eq_true rfl) rfl d_P_init_27 rfl ?_
  exact g_vretI C hr hk (fun j => [q0, q1].getD j 0) (fun _ h => h) (fun _ h => h) d_P_init_30

abbrev ri_F : Room := { frames := 1, cells := 6, slots := 256, locals := 20 }
abbrev wo_F (ki kz kl kq : ClassId) (h0 b1 : Nat) (g : Nat → Nat) : va_W := [(h0, .inr (6, [.ref b1, .ref (g 0), .ref (g 1), .ref (g 2), .ref (g 3), .ref (g 4), .ref (g 5), .int (iI 0), .int (iI 0), .int (iI 0)])), ((g 0), .inl (ki, 56, .inl (ia zf))), ((g 1), .inl (ki, 56, .inl (ia zf))), ((g 2), .inl (ki, 56, .inl (ia zf))), ((g 3), .inl (ki, 56, .inl (ia zf))), ((g 4), .inl (ki, 16, .inl (ia zf))), ((g 5), .inl (ki, 16, .inl (ia zf)))]
set_option maxRecDepth 100000 in
set_option maxHeartbeats 4000000 in
theorem c_F_init {l : Launch} {D : va_G} {ki kz kl kq : ClassId} {h0 b1 : Nat} : MI l D (tyz ki kz kl kq) y_F_init (Cond.code y_F_init b_F_init 2 none :: TT) ri_F [.ref h0, .ref b1] [(h0, .inr (6, [.null, .null, .null, .null, .null, .null, .null, .int (iI 0), .int (iI 0), .int (iI 0)]))] (wo_F ki kz kl kq h0 b1) 6 256 := by
  refine MI.go b_F_init 2 "NextPaths$Flow" [(0, .ref h0), (1, .ref b1)] (by decide) rfl rfl rfl (Nat.le_of_ble_eq_true rfl) ?_
  intro p e s m args below meth c C hO hr hk hin hA
  refine g_aload_n C d_F_init_0 rfl rfl ?_
  refine g_obj C k_F_3 d_F_init_1 rfl (by decide) (by decide) ?_
  refine g_aload_n C d_F_init_4 rfl rfl ?_
  refine g_bipush (z := 56) C d_F_init_5 rfl (by decide) ?_
  refine g_newI (N := 56) C hA rfl (by decide) (by decide) (by decide) d_F_init_7 rfl (fun q0 => ?_)
  refine g_world (ws' := [(h0, .inr (6, [.null, .null, .null, .null, .null, .null, .null, .int (iI 0), .int (iI 0), .int (iI 0)])), (q0, .inl (ki, 56, .inl (ia zf)))]) rfl ?_
  refine g_putF (ty := (.array .int)) (x' := [(h0, .inr (6, [.null, .ref q0, .null, .null, .null, .null, .null, .int (iI 0), .int (iI 0), .int (iI 0)])), (q0, .inl (ki, 56, .inl (ia zf)))]) C hin 0 1 ty_F i_F ty_F_ok n_F rfl rfl (by decide) k_F_11 rfl rfl (by decide +kernel) rfl rfl (Nat.le_of_ble_eq_true rfl) rfl d_F_init_9 rfl ?_
  refine g_aload_n C d_F_init_12 rfl rfl ?_
  refine g_bipush (z := 56) C d_F_init_13 rfl (by decide) ?_
  refine g_newI (N := 56) C hA rfl (by decide) (by decide) (by decide) d_F_init_15 rfl (fun q1 => ?_)
  refine g_world (ws' := [(h0, .inr (6, [.null, .ref q0, .null, .null, .null, .null, .null, .int (iI 0), .int (iI 0), .int (iI 0)])), (q0, .inl (ki, 56, .inl (ia zf))), (q1, .inl (ki, 56, .inl (ia zf)))]) rfl ?_
  refine g_putF (ty := (.array .int)) (x' := [(h0, .inr (6, [.null, .ref q0, .ref q1, .null, .null, .null, .null, .int (iI 0), .int (iI 0), .int (iI 0)])), (q0, .inl (ki, 56, .inl (ia zf))), (q1, .inl (ki, 56, .inl (ia zf)))]) C hin 0 2 ty_F i_F ty_F_ok n_F rfl rfl (by decide) k_F_15 rfl rfl (by decide +kernel) rfl rfl (Nat.le_of_ble_eq_true rfl) rfl d_F_init_17 rfl ?_
  refine g_aload_n C d_F_init_20 rfl rfl ?_
  refine g_bipush (z := 56) C d_F_init_21 rfl (by decide) ?_
  refine g_newI (N := 56) C hA rfl (by decide) (by decide) (by decide) d_F_init_23 rfl (fun q2 => ?_)
  refine g_world (ws' := [(h0, .inr (6, [.null, .ref q0, .ref q1, .null, .null, .null, .null, .int (iI 0), .int (iI 0), .int (iI 0)])), (q0, .inl (ki, 56, .inl (ia zf))), (q1, .inl (ki, 56, .inl (ia zf))), (q2, .inl (ki, 56, .inl (ia zf)))]) rfl ?_
  refine g_putF (ty := (.array .int)) (x' := [(h0, .inr (6, [.null, .ref q0, .ref q1, .ref q2, .null, .null, .null, .int (iI 0), .int (iI 0), .int (iI 0)])), (q0, .inl (ki, 56, .inl (ia zf))), (q1, .inl (ki, 56, .inl (ia zf))), (q2, .inl (ki, 56, .inl (ia zf)))]) C hin 0 3 ty_F i_F ty_F_ok n_F rfl rfl (by decide) k_F_18 rfl rfl (by decide +kernel) rfl rfl (Nat.le_of_ble_eq_true rfl) rfl d_F_init_25 rfl ?_
  refine g_aload_n C d_F_init_28 rfl rfl ?_
  refine g_bipush (z := 56) C d_F_init_29 rfl (by decide) ?_
  refine g_newI (N := 56) C hA rfl (by decide) (by decide) (by decide) d_F_init_31 rfl (fun q3 => ?_)
  refine g_world (ws' := [(h0, .inr (6, [.null, .ref q0, .ref q1, .ref q2, .null, .null, .null, .int (iI 0), .int (iI 0), .int (iI 0)])), (q0, .inl (ki, 56, .inl (ia zf))), (q1, .inl (ki, 56, .inl (ia zf))), (q2, .inl (ki, 56, .inl (ia zf))), (q3, .inl (ki, 56, .inl (ia zf)))]) rfl ?_
  refine g_putF (ty := (.array .int)) (x' := [(h0, .inr (6, [.null, .ref q0, .ref q1, .ref q2, .ref q3, .null, .null, .int (iI 0), .int (iI 0), .int (iI 0)])), (q0, .inl (ki, 56, .inl (ia zf))), (q1, .inl (ki, 56, .inl (ia zf))), (q2, .inl (ki, 56, .inl (ia zf))), (q3, .inl (ki, 56, .inl (ia zf)))]) C hin 0 4 ty_F i_F ty_F_ok n_F rfl rfl (by decide) k_F_21 rfl rfl (by decide +kernel) rfl rfl (Nat.le_of_ble_eq_true rfl) rfl d_F_init_33 rfl ?_
  refine g_aload_n C d_F_init_36 rfl rfl ?_
  refine g_bipush (z := 16) C d_F_init_37 rfl (by decide) ?_
  refine g_newI (N := 16) C hA rfl (by decide) (by decide) (by decide) d_F_init_39 rfl (fun q4 => ?_)
  refine g_world (ws' := [(h0, .inr (6, [.null, .ref q0, .ref q1, .ref q2, .ref q3, .null, .null, .int (iI 0), .int (iI 0), .int (iI 0)])), (q0, .inl (ki, 56, .inl (ia zf))), (q1, .inl (ki, 56, .inl (ia zf))), (q2, .inl (ki, 56, .inl (ia zf))), (q3, .inl (ki, 56, .inl (ia zf))), (q4, .inl (ki, 16, .inl (ia zf)))]) rfl ?_
  refine g_putF (ty := (.array .int)) (x' := [(h0, .inr (6, [.null, .ref q0, .ref q1, .ref q2, .ref q3, .ref q4, .null, .int (iI 0), .int (iI 0), .int (iI 0)])), (q0, .inl (ki, 56, .inl (ia zf))), (q1, .inl (ki, 56, .inl (ia zf))), (q2, .inl (ki, 56, .inl (ia zf))), (q3, .inl (ki, 56, .inl (ia zf))), (q4, .inl (ki, 16, .inl (ia zf)))]) C hin 0 5 ty_F i_F ty_F_ok n_F rfl rfl (by decide) k_F_24 rfl rfl (by decide +kernel) rfl rfl (Nat.le_of_ble_eq_true rfl) rfl d_F_init_41 rfl ?_
  refine g_aload_n C d_F_init_44 rfl rfl ?_
  refine g_bipush (z := 16) C d_F_init_45 rfl (by decide) ?_
  refine g_newI (N := 16) C hA rfl (by decide) (by decide) (by decide) d_F_init_47 rfl (fun q5 => ?_)
  refine g_world (ws' := [(h0, .inr (6, [.null, .ref q0, .ref q1, .ref q2, .ref q3, .ref q4, .null, .int (iI 0), .int (iI 0), .int (iI 0)])), (q0, .inl (ki, 56, .inl (ia zf))), (q1, .inl (ki, 56, .inl (ia zf))), (q2, .inl (ki, 56, .inl (ia zf))), (q3, .inl (ki, 56, .inl (ia zf))), (q4, .inl (ki, 16, .inl (ia zf))), (q5, .inl (ki, 16, .inl (ia zf)))]) rfl ?_
  refine g_putF (ty := (.array .int)) (x' := [(h0, .inr (6, [.null, .ref q0, .ref q1, .ref q2, .ref q3, .ref q4, .ref q5, .int (iI 0), .int (iI 0), .int (iI 0)])), (q0, .inl (ki, 56, .inl (ia zf))), (q1, .inl (ki, 56, .inl (ia zf))), (q2, .inl (ki, 56, .inl (ia zf))), (q3, .inl (ki, 56, .inl (ia zf))), (q4, .inl (ki, 16, .inl (ia zf))), (q5, .inl (ki, 16, .inl (ia zf)))]) C hin 0 6 ty_F i_F ty_F_ok n_F rfl rfl (by decide) k_F_27 rfl rfl (by decide +kernel) rfl rfl (Nat.le_of_ble_eq_true rfl) rfl d_F_init_49 rfl ?_
  refine g_aload_n C d_F_init_52 rfl rfl ?_
  refine g_aload_n C d_F_init_53 rfl rfl ?_
  refine g_putF (ty := (.object "NextPaths$Graph")) (x' := [(h0, .inr (6, [.ref b1, .ref q0, .ref q1, .ref q2, .ref q3, .ref q4, .ref q5, .int (iI 0), .int (iI 0), .int (iI 0)])), (q0, .inl (ki, 56, .inl (ia zf))), (q1, .inl (ki, 56, .inl (ia zf))), (q2, .inl (ki, 56, .inl (ia zf))), (q3, .inl (ki, 56, .inl (ia zf))), (q4, .inl (ki, 16, .inl (ia zf))), (q5, .inl (ki, 16, .inl (ia zf)))]) C hin 0 0 ty_F i_F ty_F_ok n_F rfl rfl (by decide) k_F_30 rfl rfl (by decide +kernel) rfl rfl (Nat.le_of_ble_eq_true rfl) rfl d_F_init_54 rfl ?_
  exact g_vretI C hr hk (fun j => [q0, q1, q2, q3, q4, q5].getD j 0) (fun _ h => h) (fun _ h => h) d_F_init_57

abbrev ri_T : Room := { frames := 1, cells := 1, slots := 7, locals := 20 }
abbrev wo_T (ki kz kl kq : ClassId) (h0 : Nat) (g : Nat → Nat) : va_W := [(h0, .inr (4, [.ref (g 0), .int (iI 0), .int (iI 0), .int (iI 0)])), ((g 0), .inl (ki, 7, .inl (ia zf)))]
set_option maxRecDepth 100000 in
set_option maxHeartbeats 4000000 in
theorem c_T_init {l : Launch} {D : va_G} {ki kz kl kq : ClassId} {h0  : Nat} : MI l D (tyz ki kz kl kq) y_T_init (Cond.code y_T_init b_T_init 1 none :: TT) ri_T [.ref h0] [(h0, .inr (4, [.null, .int (iI 0), .int (iI 0), .int (iI 0)]))] (wo_T ki kz kl kq h0 ) 1 7 := by
  refine MI.go b_T_init 1 "NextPaths$ToldPath" [(0, .ref h0)] (by decide) rfl rfl rfl (Nat.le_of_ble_eq_true rfl) ?_
  intro p e s m args below meth c C hO hr hk hin hA
  refine g_aload_n C d_T_init_0 rfl rfl ?_
  refine g_obj C k_T_3 d_T_init_1 rfl (by decide) (by decide) ?_
  refine g_aload_n C d_T_init_4 rfl rfl ?_
  refine g_bipush (z := 7) C d_T_init_5 rfl (by decide) ?_
  refine g_newI (N := 7) C hA rfl (by decide) (by decide) (by decide) d_T_init_7 rfl (fun q0 => ?_)
  refine g_world (ws' := [(h0, .inr (4, [.null, .int (iI 0), .int (iI 0), .int (iI 0)])), (q0, .inl (ki, 7, .inl (ia zf)))]) rfl ?_
  refine g_putF (ty := (.array .int)) (x' := [(h0, .inr (4, [.ref q0, .int (iI 0), .int (iI 0), .int (iI 0)])), (q0, .inl (ki, 7, .inl (ia zf)))]) C hin 0 0 ty_T i_T ty_T_ok n_T rfl rfl (by decide) k_T_9 rfl rfl (by decide +kernel) rfl rfl (Nat.le_of_ble_eq_true rfl) rfl d_T_init_9 rfl ?_
  exact g_vretI C hr hk (fun j => [q0].getD j 0) (fun _ h => h) (fun _ h => h) d_T_init_12

abbrev ri_B : Room := { frames := 1, cells := 2, slots := 2916, locals := 20 }
abbrev wo_B (ki kz kl kq : ClassId) (h0 : Nat) (g : Nat → Nat) : va_W := [(h0, .inr (5, [.ref (g 0), .ref (g 1), .int (iI 0)])), ((g 0), .inl (ki, 1458, .inl (ia zf))), ((g 1), .inl (ki, 1458, .inl (ia zf)))]
set_option maxRecDepth 100000 in
set_option maxHeartbeats 4000000 in
theorem c_B_init {l : Launch} {D : va_G} {ki kz kl kq : ClassId} {h0  : Nat} : MI l D (tyz ki kz kl kq) y_B_init (Cond.code y_B_init b_B_init 1 none :: TT) ri_B [.ref h0] [(h0, .inr (5, [.null, .null, .int (iI 0)]))] (wo_B ki kz kl kq h0 ) 2 2916 := by
  refine MI.go b_B_init 1 "NextPaths$BestPairs" [(0, .ref h0)] (by decide) rfl rfl rfl (Nat.le_of_ble_eq_true rfl) ?_
  intro p e s m args below meth c C hO hr hk hin hA
  refine g_aload_n C d_B_init_0 rfl rfl ?_
  refine g_obj C k_B_3 d_B_init_1 rfl (by decide) (by decide) ?_
  refine g_aload_n C d_B_init_4 rfl rfl ?_
  refine g_sipush (z := 1458) C d_B_init_5 rfl (by decide) ?_
  refine g_newI (N := 1458) C hA rfl (by decide) (by decide) (by decide) d_B_init_8 rfl (fun q0 => ?_)
  refine g_world (ws' := [(h0, .inr (5, [.null, .null, .int (iI 0)])), (q0, .inl (ki, 1458, .inl (ia zf)))]) rfl ?_
  refine g_putF (ty := (.array .int)) (x' := [(h0, .inr (5, [.ref q0, .null, .int (iI 0)])), (q0, .inl (ki, 1458, .inl (ia zf)))]) C hin 0 0 ty_B i_B ty_B_ok n_B rfl rfl (by decide) k_B_9 rfl rfl (by decide +kernel) rfl rfl (Nat.le_of_ble_eq_true rfl) rfl d_B_init_10 rfl ?_
  refine g_aload_n C d_B_init_13 rfl rfl ?_
  refine g_sipush (z := 1458) C d_B_init_14 rfl (by decide) ?_
  refine g_newI (N := 1458) C hA rfl (by decide) (by decide) (by decide) d_B_init_17 rfl (fun q1 => ?_)
  refine g_world (ws' := [(h0, .inr (5, [.ref q0, .null, .int (iI 0)])), (q0, .inl (ki, 1458, .inl (ia zf))), (q1, .inl (ki, 1458, .inl (ia zf)))]) rfl ?_
  refine g_putF (ty := (.array .int)) (x' := [(h0, .inr (5, [.ref q0, .ref q1, .int (iI 0)])), (q0, .inl (ki, 1458, .inl (ia zf))), (q1, .inl (ki, 1458, .inl (ia zf)))]) C hin 0 1 ty_B i_B ty_B_ok n_B rfl rfl (by decide) k_B_15 rfl rfl (by decide +kernel) rfl rfl (Nat.le_of_ble_eq_true rfl) rfl d_B_init_19 rfl ?_
  exact g_vretI C hr hk (fun j => [q0, q1].getD j 0) (fun _ h => h) (fun _ h => h) d_B_init_22

