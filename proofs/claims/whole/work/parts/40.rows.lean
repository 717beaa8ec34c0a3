/-! one goal a point: the machine at pc with the locals lv and the stack st, over every heap that holds the cells w x -/
def iI (z : Int) : Int32 := Int32.ofInt z
def lI (z : Int) : Int64 := Int64.ofInt z
abbrev r32 (z : Int) : Prop := -2147483648 ≤ z ∧ z < 2147483648
abbrev r64 (z : Int) : Prop := -9223372036854775808 ≤ z ∧ z < 9223372036854775808
theorem iI_t {z : Int} (h : r32 z) : (iI z).toInt = z := Int32.toInt_ofInt_of_le (by omega) (by omega)
theorem lI_t {z : Int} (h : r64 z) : (lI z).toInt = z := Int64.toInt_ofInt_of_le (by omega) (by omega)
theorem iI_of (x : Int32) : ∃ z, r32 z ∧ x = iI z := ⟨x.toInt, ⟨x.le_toInt, by have := x.toInt_lt; omega⟩, (Int32.ofInt_toInt x).symm⟩
theorem iI_lt {a b : Int} (ha : r32 a) (hb : r32 b) : iI a < iI b ↔ a < b := by rw [Int32.lt_iff_toInt_lt, iI_t ha, iI_t hb]
theorem iI_le {a b : Int} (ha : r32 a) (hb : r32 b) : iI a ≤ iI b ↔ a ≤ b := by rw [Int32.le_iff_toInt_le, iI_t ha, iI_t hb]
theorem iI_eq {a b : Int} (ha : r32 a) (hb : r32 b) : iI a = iI b ↔ a = b := by rw [← Int32.toInt_inj, iI_t ha, iI_t hb]
theorem lI_lt {a b : Int} (ha : r64 a) (hb : r64 b) : lI a < lI b ↔ a < b := by rw [Int64.lt_iff_toInt_lt, lI_t ha, lI_t hb]
theorem iI_nI (n : Nat) : iI (n : Int) = nI n := Int32.ofInt_eq_ofNat
theorem iI_in {z : Int} {n : Nat} (h0 : 0 ≤ z) (h1 : z < n) (hn : n < 2147483648) : vp_in (iI z) n := by
  rw [vp_in_iff, iI_t ⟨by omega, by omega⟩]
  omega
theorem iI_cl {z : Int} (h0 : 0 ≤ z) (h1 : z < 2147483648) : (iI z).toNatClampNeg = z.toNat := Int32.toNatClampNeg_ofInt_of_le (by omega) (by omega)
def lk : List (Nat × Value) → Nat → Option Value
  | [], _ => none
  | q :: l, i => if q.1 = i then some q.2 else lk l i
theorem lk_at {ls : Array Slot} {nL i : Nat} {v : Value} : ∀ {lv : List (Nat × Value)}, (∀ q ∈ lv, ls[q.1]? = some (.val q.2)) → lk lv i = some v → ls[i]? = some (.val v)
  | [], _, h => by cases h
  | q :: l, hl, h => by
    unfold lk at h
    split at h
    · next e =>
      cases h
      rw [← e]
      exact hl q List.mem_cons_self
    · exact lk_at (nL := nL) (fun r hr => hl r (List.mem_cons_of_mem _ hr)) h
def CX (p : Program) (s : State) (m : MethodId) (args : Array Value) (c : Code) (cc : ByteArray) (nL : Nat) (own : String) (Ts : List Cond) (D : va_G) (cl : List vw_C) (tys : List (ClassId × FieldType)) : Prop :=
  p.tables.exec = Jvm.exec ∧ c.code = cc ∧ c.maxLocals = nL ∧ s.vm.findClass own = some m.cls ∧ (∀ w ∈ Ts, w.before args s = true) ∧ va_K D cl tys s ∧ NW s
def GG {τ : Type} (p : Program) (l : Launch) (e : Env) (R : Room) (s : State) (m : MethodId) (args : Array Value) (below : List Frame) (meth : Method) (c : Code) (D : va_G) (cl : List vw_C) (A : Nat → Prop) (nL nc ns : Nat) (Q : State → Prop) (w : τ → va_W) (x : τ) (lv : List (Nat × Value)) (pc : Nat) (st : List Value) : Prop :=
  ∀ (H : Heap) (locs : List Loc) (ls : Array Slot), va_P D cl (w x) H → va_D A (w x) → va_S A s.heap H locs → lv_has ls nL lv → W p l e R s m args below meth c H locs nc ns Q (F0 m pc ls st)
section GR
variable {τ : Type} {p : Program} {l : Launch} {e : Env} {R : Room} {s : State} {m : MethodId} {args : Array Value} {below : List Frame} {meth : Method} {c : Code} {D : va_G} {cl : List vw_C} {tys : List (ClassId × FieldType)} {A : Nat → Prop} {nL nc ns : Nat} {Q : State → Prop} {w : τ → va_W} {x : τ} {cc : ByteArray} {own : String} {Ts : List Cond} {lv lv' : List (Nat × Value)} {pc n : Nat} {st : List Value}
theorem g_iconst (C : CX p s m args c cc nL own Ts D cl tys) {j z : Int} (hd : decode cc pc = .ok (.iconst j, 1)) (hn : pc + 1 = n) (hz : iI j = iI z) (k : GG p l e R s m args below meth c D cl A nL nc ns Q w x lv n (.int (iI z) :: st)) : GG p l e R s m args below meth c D cl A nL nc ns Q w x lv pc st :=
  fun H locs ls hP hD hS hl => by subst hn; exact lv_iconst C.1 C.2.1 hd hz (k H locs ls hP hD hS hl)
theorem g_bipush (C : CX p s m args c cc nL own Ts D cl tys) {j z : Int} (hd : decode cc pc = .ok (.bipush j, 2)) (hn : pc + 2 = n) (hz : (Int8.ofInt j).toInt32 = iI z) (k : GG p l e R s m args below meth c D cl A nL nc ns Q w x lv n (.int (iI z) :: st)) : GG p l e R s m args below meth c D cl A nL nc ns Q w x lv pc st :=
  fun H locs ls hP hD hS hl => by subst hn; exact lv_bipush C.1 C.2.1 hd hz (k H locs ls hP hD hS hl)
theorem g_sipush (C : CX p s m args c cc nL own Ts D cl tys) {j z : Int} (hd : decode cc pc = .ok (.sipush j, 3)) (hn : pc + 3 = n) (hz : (Int16.ofInt j).toInt32 = iI z) (k : GG p l e R s m args below meth c D cl A nL nc ns Q w x lv n (.int (iI z) :: st)) : GG p l e R s m args below meth c D cl A nL nc ns Q w x lv pc st :=
  fun H locs ls hP hD hS hl => by subst hn; exact lv_sipush C.1 C.2.1 hd hz (k H locs ls hP hD hS hl)
theorem g_ldc (C : CX p s m args c cc nL own Ts D cl tys) {index : Nat} {z : Int} (hc : Jvm.Cond.constant own index (iI z) ∈ Ts) (hd : decode cc pc = .ok (.ldc index, 2)) (hn : pc + 2 = n) (k : GG p l e R s m args below meth c D cl A nL nc ns Q w x lv n (.int (iI z) :: st)) : GG p l e R s m args below meth c D cl A nL nc ns Q w x lv pc st :=
  fun H locs ls hP hD hS hl => by subst hn; exact lv_ldc C.1 C.2.1 C.2.2.2.1 (C.2.2.2.2.1 _ hc) hd (k H locs ls hP hD hS hl)
theorem g_lconst (C : CX p s m args c cc nL own Ts D cl tys) {j : Fin 2} {z : Int} (hd : decode cc pc = .ok (.lconst j, 1)) (hn : pc + 1 = n) (hz : Int64.ofNat (j : Nat) = lI z) (k : GG p l e R s m args below meth c D cl A nL nc ns Q w x lv n (.long (lI z) :: st)) : GG p l e R s m args below meth c D cl A nL nc ns Q w x lv pc st :=
  fun H locs ls hP hD hS hl => by subst hn; exact lv_lconst C.1 C.2.1 hd hz (k H locs ls hP hD hS hl)
theorem g_ldc2 (C : CX p s m args c cc nL own Ts D cl tys) {index : Nat} {z : Int} (hc : Jvm.Cond.constantLong own index (lI z) ∈ Ts) (hd : decode cc pc = .ok (.ldc2_w index, 3)) (hn : pc + 3 = n) (k : GG p l e R s m args below meth c D cl A nL nc ns Q w x lv n (.long (lI z) :: st)) : GG p l e R s m args below meth c D cl A nL nc ns Q w x lv pc st :=
  fun H locs ls hP hD hS hl => by subst hn; exact lv_ldc2 C.1 C.2.1 C.2.2.2.1 (C.2.2.2.2.1 _ hc) hd (k H locs ls hP hD hS hl)
theorem g_iload_n (C : CX p s m args c cc nL own Ts D cl tys) {j : Fin 4} {y : Int32} (hd : decode cc pc = .ok (.iload_n j, 1)) (hk : lk lv (j : Nat) = some (.int y)) (hn : pc + 1 = n) (k : GG p l e R s m args below meth c D cl A nL nc ns Q w x lv n (.int y :: st)) : GG p l e R s m args below meth c D cl A nL nc ns Q w x lv pc st :=
  fun H locs ls hP hD hS hl => by subst hn; exact lv_iload_n C.1 C.2.1 hd rfl (lk_at (nL := nL) hl.2.2 hk) (k H locs ls hP hD hS hl)
theorem g_iload (C : CX p s m args c cc nL own Ts D cl tys) {j : Nat} {y : Int32} (hd : decode cc pc = .ok (.iload j, 2)) (hk : lk lv j = some (.int y)) (hn : pc + 2 = n) (k : GG p l e R s m args below meth c D cl A nL nc ns Q w x lv n (.int y :: st)) : GG p l e R s m args below meth c D cl A nL nc ns Q w x lv pc st :=
  fun H locs ls hP hD hS hl => by subst hn; exact lv_iload C.1 C.2.1 hd (lk_at (nL := nL) hl.2.2 hk) (k H locs ls hP hD hS hl)
theorem g_lload_n (C : CX p s m args c cc nL own Ts D cl tys) {j : Fin 4} {y : Int64} (hd : decode cc pc = .ok (.lload_n j, 1)) (hk : lk lv (j : Nat) = some (.long y)) (hn : pc + 1 = n) (k : GG p l e R s m args below meth c D cl A nL nc ns Q w x lv n (.long y :: st)) : GG p l e R s m args below meth c D cl A nL nc ns Q w x lv pc st :=
  fun H locs ls hP hD hS hl => by subst hn; exact lv_lload_n C.1 C.2.1 hd rfl (lk_at (nL := nL) hl.2.2 hk) (k H locs ls hP hD hS hl)
theorem g_lload (C : CX p s m args c cc nL own Ts D cl tys) {j : Nat} {y : Int64} (hd : decode cc pc = .ok (.lload j, 2)) (hk : lk lv j = some (.long y)) (hn : pc + 2 = n) (k : GG p l e R s m args below meth c D cl A nL nc ns Q w x lv n (.long y :: st)) : GG p l e R s m args below meth c D cl A nL nc ns Q w x lv pc st :=
  fun H locs ls hP hD hS hl => by subst hn; exact lv_lload C.1 C.2.1 hd (lk_at (nL := nL) hl.2.2 hk) (k H locs ls hP hD hS hl)
theorem g_aload_n (C : CX p s m args c cc nL own Ts D cl tys) {j : Fin 4} {y : Nat} (hd : decode cc pc = .ok (.aload_n j, 1)) (hk : lk lv (j : Nat) = some (.ref y)) (hn : pc + 1 = n) (k : GG p l e R s m args below meth c D cl A nL nc ns Q w x lv n (.ref y :: st)) : GG p l e R s m args below meth c D cl A nL nc ns Q w x lv pc st :=
  fun H locs ls hP hD hS hl => by subst hn; exact lv_aload_n C.1 C.2.1 hd rfl (lk_at (nL := nL) hl.2.2 hk) (k H locs ls hP hD hS hl)
theorem g_aload (C : CX p s m args c cc nL own Ts D cl tys) {j : Nat} {y : Nat} (hd : decode cc pc = .ok (.aload j, 2)) (hk : lk lv j = some (.ref y)) (hn : pc + 2 = n) (k : GG p l e R s m args below meth c D cl A nL nc ns Q w x lv n (.ref y :: st)) : GG p l e R s m args below meth c D cl A nL nc ns Q w x lv pc st :=
  fun H locs ls hP hD hS hl => by subst hn; exact lv_aload C.1 C.2.1 hd (lk_at (nL := nL) hl.2.2 hk) (k H locs ls hP hD hS hl)
theorem g_istore_n (C : CX p s m args c cc nL own Ts D cl tys) {j : Fin 4} {y : Int32} (hd : decode cc pc = .ok (.istore_n j, 1)) (hj : (j : Nat) < nL) (hs : ((j : Nat), Value.int y) :: lv.filter (fun q => !(q.1 == (j : Nat)) && !(q.1 + 1 == (j : Nat) && q.2.category == 2)) = lv') (hn : pc + 1 = n) (k : GG p l e R s m args below meth c D cl A nL nc ns Q w x lv' n st) : GG p l e R s m args below meth c D cl A nL nc ns Q w x lv pc (.int y :: st) :=
  fun H locs ls hP hD hS hl => by subst hn; exact lv_istore_n C.1 C.2.1 hd rfl hl hj hs (fun ls' hl' => k H locs ls' hP hD hS hl')
theorem g_istore (C : CX p s m args c cc nL own Ts D cl tys) {j : Nat} {y : Int32} (hd : decode cc pc = .ok (.istore j, 2)) (hj : j < nL) (hs : (j, Value.int y) :: lv.filter (fun q => !(q.1 == j) && !(q.1 + 1 == j && q.2.category == 2)) = lv') (hn : pc + 2 = n) (k : GG p l e R s m args below meth c D cl A nL nc ns Q w x lv' n st) : GG p l e R s m args below meth c D cl A nL nc ns Q w x lv pc (.int y :: st) :=
  fun H locs ls hP hD hS hl => by subst hn; exact lv_istore C.1 C.2.1 hd hl hj hs (fun ls' hl' => k H locs ls' hP hD hS hl')
theorem g_lstore_n (C : CX p s m args c cc nL own Ts D cl tys) {j : Fin 4} {y : Int64} (hd : decode cc pc = .ok (.lstore_n j, 1)) (hj : (j : Nat) + 1 < nL) (hs : ((j : Nat), Value.long y) :: lv.filter (fun q => !(q.1 == (j : Nat)) && (!(q.1 == (j : Nat) + 1) && !(q.1 + 1 == (j : Nat) && q.2.category == 2))) = lv') (hn : pc + 1 = n) (k : GG p l e R s m args below meth c D cl A nL nc ns Q w x lv' n st) : GG p l e R s m args below meth c D cl A nL nc ns Q w x lv pc (.long y :: st) :=
  fun H locs ls hP hD hS hl => by subst hn; exact lv_lstore_n C.1 C.2.1 hd rfl hl hj hs (fun ls' hl' => k H locs ls' hP hD hS hl')
theorem g_lstore (C : CX p s m args c cc nL own Ts D cl tys) {j : Nat} {y : Int64} (hd : decode cc pc = .ok (.lstore j, 2)) (hj : j + 1 < nL) (hs : (j, Value.long y) :: lv.filter (fun q => !(q.1 == j) && (!(q.1 == j + 1) && !(q.1 + 1 == j && q.2.category == 2))) = lv') (hn : pc + 2 = n) (k : GG p l e R s m args below meth c D cl A nL nc ns Q w x lv' n st) : GG p l e R s m args below meth c D cl A nL nc ns Q w x lv pc (.long y :: st) :=
  fun H locs ls hP hD hS hl => by subst hn; exact lv_lstore C.1 C.2.1 hd hl hj hs (fun ls' hl' => k H locs ls' hP hD hS hl')
theorem g_astore_n (C : CX p s m args c cc nL own Ts D cl tys) {j : Fin 4} {y : Nat} (hd : decode cc pc = .ok (.astore_n j, 1)) (hj : (j : Nat) < nL) (hs : ((j : Nat), Value.ref y) :: lv.filter (fun q => !(q.1 == (j : Nat)) && !(q.1 + 1 == (j : Nat) && q.2.category == 2)) = lv') (hn : pc + 1 = n) (k : GG p l e R s m args below meth c D cl A nL nc ns Q w x lv' n st) : GG p l e R s m args below meth c D cl A nL nc ns Q w x lv pc (.ref y :: st) :=
  fun H locs ls hP hD hS hl => by subst hn; exact lv_astore_n C.1 C.2.1 hd rfl hl hj hs (fun ls' hl' => k H locs ls' hP hD hS hl')
theorem g_astore (C : CX p s m args c cc nL own Ts D cl tys) {j : Nat} {y : Nat} (hd : decode cc pc = .ok (.astore j, 2)) (hj : j < nL) (hs : (j, Value.ref y) :: lv.filter (fun q => !(q.1 == j) && !(q.1 + 1 == j && q.2.category == 2)) = lv') (hn : pc + 2 = n) (k : GG p l e R s m args below meth c D cl A nL nc ns Q w x lv' n st) : GG p l e R s m args below meth c D cl A nL nc ns Q w x lv pc (.ref y :: st) :=
  fun H locs ls hP hD hS hl => by subst hn; exact lv_astore C.1 C.2.1 hd hl hj hs (fun ls' hl' => k H locs ls' hP hD hS hl')
theorem g_iinc (C : CX p s m args c cc nL own Ts D cl tys) {j q : Nat} {a z : Int} {y : Int} (hd : decode cc pc = .ok (.iinc j a, 3)) (hk : lv[q]? = some (j, .int (iI y))) (hz : y + a = z) (hj : j < nL) (hs : (j, Value.int (iI z)) :: lv.filter (fun q => !(q.1 == j) && !(q.1 + 1 == j && q.2.category == 2)) = lv') (hn : pc + 3 = n) (k : GG p l e R s m args below meth c D cl A nL nc ns Q w x lv' n st) : GG p l e R s m args below meth c D cl A nL nc ns Q w x lv pc st :=
  fun H locs ls hP hD hS hl => by subst hn; subst hz; exact lv_iinc C.1 C.2.1 hd hl hk (Int32.ofInt_add _ _).symm hj hs (fun ls' hl' => k H locs ls' hP hD hS hl')
theorem g_iadd (C : CX p s m args c cc nL own Ts D cl tys) {a b z : Int} (hd : decode cc pc = .ok (.iadd, 1)) (hz : a + b = z) (hn : pc + 1 = n) (k : GG p l e R s m args below meth c D cl A nL nc ns Q w x lv n (.int (iI z) :: st)) : GG p l e R s m args below meth c D cl A nL nc ns Q w x lv pc (.int (iI b) :: .int (iI a) :: st) :=
  fun H locs ls hP hD hS hl => by
    subst hn; subst hz
    refine lv_iadd C.1 C.2.1 hd ?_
    have h := k H locs ls hP hD hS hl
    unfold iI at h ⊢
    rw [Int32.ofInt_add] at h
    exact h
theorem g_isub (C : CX p s m args c cc nL own Ts D cl tys) {a b z : Int} (hd : decode cc pc = .ok (.isub, 1)) (hz : a - b = z) (hn : pc + 1 = n) (k : GG p l e R s m args below meth c D cl A nL nc ns Q w x lv n (.int (iI z) :: st)) : GG p l e R s m args below meth c D cl A nL nc ns Q w x lv pc (.int (iI b) :: .int (iI a) :: st) :=
  fun H locs ls hP hD hS hl => by
    subst hn; subst hz
    refine lv_isub C.1 C.2.1 hd ?_
    have h := k H locs ls hP hD hS hl
    unfold iI at h ⊢
    rw [Int32.ofInt_sub] at h
    exact h
theorem g_imul (C : CX p s m args c cc nL own Ts D cl tys) {a b z : Int} (hd : decode cc pc = .ok (.imul, 1)) (hz : a * b = z) (hn : pc + 1 = n) (k : GG p l e R s m args below meth c D cl A nL nc ns Q w x lv n (.int (iI z) :: st)) : GG p l e R s m args below meth c D cl A nL nc ns Q w x lv pc (.int (iI b) :: .int (iI a) :: st) :=
  fun H locs ls hP hD hS hl => by
    subst hn; subst hz
    refine lv_imul C.1 C.2.1 hd ?_
    have h := k H locs ls hP hD hS hl
    unfold iI at h ⊢
    rw [Int32.ofInt_mul] at h
    exact h
theorem g_ineg (C : CX p s m args c cc nL own Ts D cl tys) {a z : Int} (hd : decode cc pc = .ok (.ineg, 1)) (hz : -a = z) (hn : pc + 1 = n) (k : GG p l e R s m args below meth c D cl A nL nc ns Q w x lv n (.int (iI z) :: st)) : GG p l e R s m args below meth c D cl A nL nc ns Q w x lv pc (.int (iI a) :: st) :=
  fun H locs ls hP hD hS hl => by
    subst hn; subst hz
    refine lv_ineg C.1 C.2.1 hd ?_
    have h := k H locs ls hP hD hS hl
    unfold iI at h ⊢
    rw [Int32.ofInt_neg] at h
    exact h
theorem g_iand (C : CX p s m args c cc nL own Ts D cl tys) {a b : Int32} {z : Int} (hd : decode cc pc = .ok (.iand, 1)) (hz : a &&& b = iI z) (hn : pc + 1 = n) (k : GG p l e R s m args below meth c D cl A nL nc ns Q w x lv n (.int (iI z) :: st)) : GG p l e R s m args below meth c D cl A nL nc ns Q w x lv pc (.int b :: .int a :: st) :=
  fun H locs ls hP hD hS hl => by subst hn; exact lv_iand C.1 C.2.1 hd (hz ▸ k H locs ls hP hD hS hl)
theorem g_ior (C : CX p s m args c cc nL own Ts D cl tys) {a b : Int32} {z : Int} (hd : decode cc pc = .ok (.ior, 1)) (hz : a ||| b = iI z) (hn : pc + 1 = n) (k : GG p l e R s m args below meth c D cl A nL nc ns Q w x lv n (.int (iI z) :: st)) : GG p l e R s m args below meth c D cl A nL nc ns Q w x lv pc (.int b :: .int a :: st) :=
  fun H locs ls hP hD hS hl => by subst hn; exact lv_ior C.1 C.2.1 hd (hz ▸ k H locs ls hP hD hS hl)
theorem g_ixor (C : CX p s m args c cc nL own Ts D cl tys) {a b : Int32} {z : Int} (hd : decode cc pc = .ok (.ixor, 1)) (hz : a ^^^ b = iI z) (hn : pc + 1 = n) (k : GG p l e R s m args below meth c D cl A nL nc ns Q w x lv n (.int (iI z) :: st)) : GG p l e R s m args below meth c D cl A nL nc ns Q w x lv pc (.int b :: .int a :: st) :=
  fun H locs ls hP hD hS hl => by subst hn; exact lv_ixor C.1 C.2.1 hd (hz ▸ k H locs ls hP hD hS hl)
theorem g_ishl (C : CX p s m args c cc nL own Ts D cl tys) {a b : Int32} {z : Int} (hd : decode cc pc = .ok (.ishl, 1)) (hz : a <<< (b &&& 31) = iI z) (hn : pc + 1 = n) (k : GG p l e R s m args below meth c D cl A nL nc ns Q w x lv n (.int (iI z) :: st)) : GG p l e R s m args below meth c D cl A nL nc ns Q w x lv pc (.int b :: .int a :: st) :=
  fun H locs ls hP hD hS hl => by subst hn; exact lv_ishl C.1 C.2.1 hd (hz ▸ k H locs ls hP hD hS hl)
theorem g_ishr (C : CX p s m args c cc nL own Ts D cl tys) {a b : Int32} {z : Int} (hd : decode cc pc = .ok (.ishr, 1)) (hz : a >>> (b &&& 31) = iI z) (hn : pc + 1 = n) (k : GG p l e R s m args below meth c D cl A nL nc ns Q w x lv n (.int (iI z) :: st)) : GG p l e R s m args below meth c D cl A nL nc ns Q w x lv pc (.int b :: .int a :: st) :=
  fun H locs ls hP hD hS hl => by subst hn; exact lv_ishr C.1 C.2.1 hd (hz ▸ k H locs ls hP hD hS hl)
theorem g_idiv (C : CX p s m args c cc nL own Ts D cl tys) {a b : Int32} {z : Int} (hd : decode cc pc = .ok (.idiv, 1)) (hb : ¬ b = 0) (hz : a / b = iI z) (hn : pc + 1 = n) (k : GG p l e R s m args below meth c D cl A nL nc ns Q w x lv n (.int (iI z) :: st)) : GG p l e R s m args below meth c D cl A nL nc ns Q w x lv pc (.int b :: .int a :: st) :=
  fun H locs ls hP hD hS hl => by subst hn; exact lv_idiv C.1 C.2.1 hd hb (hz ▸ k H locs ls hP hD hS hl)
theorem g_lor (C : CX p s m args c cc nL own Ts D cl tys) {a b : Int64} {z : Int} (hd : decode cc pc = .ok (.lor, 1)) (hz : a ||| b = lI z) (hn : pc + 1 = n) (k : GG p l e R s m args below meth c D cl A nL nc ns Q w x lv n (.long (lI z) :: st)) : GG p l e R s m args below meth c D cl A nL nc ns Q w x lv pc (.long b :: .long a :: st) :=
  fun H locs ls hP hD hS hl => by subst hn; exact lv_lor C.1 C.2.1 hd (hz ▸ k H locs ls hP hD hS hl)
theorem g_land (C : CX p s m args c cc nL own Ts D cl tys) {a b : Int64} {z : Int} (hd : decode cc pc = .ok (.land, 1)) (hz : a &&& b = lI z) (hn : pc + 1 = n) (k : GG p l e R s m args below meth c D cl A nL nc ns Q w x lv n (.long (lI z) :: st)) : GG p l e R s m args below meth c D cl A nL nc ns Q w x lv pc (.long b :: .long a :: st) :=
  fun H locs ls hP hD hS hl => by subst hn; exact lv_land C.1 C.2.1 hd (hz ▸ k H locs ls hP hD hS hl)
theorem g_lshl (C : CX p s m args c cc nL own Ts D cl tys) {a : Int64} {b : Int32} {z : Int} (hd : decode cc pc = .ok (.lshl, 1)) (hz : a <<< (b.toInt64 &&& 63) = lI z) (hn : pc + 1 = n) (k : GG p l e R s m args below meth c D cl A nL nc ns Q w x lv n (.long (lI z) :: st)) : GG p l e R s m args below meth c D cl A nL nc ns Q w x lv pc (.int b :: .long a :: st) :=
  fun H locs ls hP hD hS hl => by subst hn; exact lv_lshl C.1 C.2.1 hd hz (k H locs ls hP hD hS hl)
theorem g_lshr (C : CX p s m args c cc nL own Ts D cl tys) {a : Int64} {b : Int32} {z : Int} (hd : decode cc pc = .ok (.lshr, 1)) (hz : a >>> (b.toInt64 &&& 63) = lI z) (hn : pc + 1 = n) (k : GG p l e R s m args below meth c D cl A nL nc ns Q w x lv n (.long (lI z) :: st)) : GG p l e R s m args below meth c D cl A nL nc ns Q w x lv pc (.int b :: .long a :: st) :=
  fun H locs ls hP hD hS hl => by subst hn; exact lv_lshr C.1 C.2.1 hd hz (k H locs ls hP hD hS hl)
theorem g_i2l (C : CX p s m args c cc nL own Ts D cl tys) {a : Int32} {z : Int} (hd : decode cc pc = .ok (.i2l, 1)) (hz : a.toInt64 = lI z) (hn : pc + 1 = n) (k : GG p l e R s m args below meth c D cl A nL nc ns Q w x lv n (.long (lI z) :: st)) : GG p l e R s m args below meth c D cl A nL nc ns Q w x lv pc (.int a :: st) :=
  fun H locs ls hP hD hS hl => by subst hn; exact lv_i2l C.1 C.2.1 hd hz (k H locs ls hP hD hS hl)
theorem g_l2i (C : CX p s m args c cc nL own Ts D cl tys) {a : Int} (hd : decode cc pc = .ok (.l2i, 1)) (hn : pc + 1 = n) (k : GG p l e R s m args below meth c D cl A nL nc ns Q w x lv n (.int (iI a) :: st)) : GG p l e R s m args below meth c D cl A nL nc ns Q w x lv pc (.long (lI a) :: st) :=
  fun H locs ls hP hD hS hl => by subst hn; exact lv_l2i C.1 C.2.1 hd Int64.toInt32_ofInt (k H locs ls hP hD hS hl)
theorem g_dup (C : CX p s m args c cc nL own Ts D cl tys) {va : Value} (hd : decode cc pc = .ok (.dup, 1)) (hva : va.category = 1) (hn : pc + 1 = n) (k : GG p l e R s m args below meth c D cl A nL nc ns Q w x lv n (va :: va :: st)) : GG p l e R s m args below meth c D cl A nL nc ns Q w x lv pc (va :: st) :=
  fun H locs ls hP hD hS hl => by subst hn; exact lv_dup C.1 C.2.1 hd hva (k H locs ls hP hD hS hl)
theorem g_pop (C : CX p s m args c cc nL own Ts D cl tys) {va : Value} (hd : decode cc pc = .ok (.pop, 1)) (hva : va.category = 1) (hn : pc + 1 = n) (k : GG p l e R s m args below meth c D cl A nL nc ns Q w x lv n (st)) : GG p l e R s m args below meth c D cl A nL nc ns Q w x lv pc (va :: st) :=
  fun H locs ls hP hD hS hl => by subst hn; exact lv_pop C.1 C.2.1 hd hva (k H locs ls hP hD hS hl)
theorem g_dup_x1 (C : CX p s m args c cc nL own Ts D cl tys) {va vb : Value} (hd : decode cc pc = .ok (.dup_x1, 1)) (hva : va.category = 1) (hvb : vb.category = 1) (hn : pc + 1 = n) (k : GG p l e R s m args below meth c D cl A nL nc ns Q w x lv n (va :: vb :: va :: st)) : GG p l e R s m args below meth c D cl A nL nc ns Q w x lv pc (va :: vb :: st) :=
  fun H locs ls hP hD hS hl => by subst hn; exact lv_dup_x1 C.1 C.2.1 hd hva hvb (k H locs ls hP hD hS hl)
theorem g_dup_x2 (C : CX p s m args c cc nL own Ts D cl tys) {va vb vd : Value} (hd : decode cc pc = .ok (.dup_x2, 1)) (hva : va.category = 1) (hvb : vb.category = 1) (hvd : vd.category = 1) (hn : pc + 1 = n) (k : GG p l e R s m args below meth c D cl A nL nc ns Q w x lv n (va :: vb :: vd :: va :: st)) : GG p l e R s m args below meth c D cl A nL nc ns Q w x lv pc (va :: vb :: vd :: st) :=
  fun H locs ls hP hD hS hl => by subst hn; exact lv_dup_x2 C.1 C.2.1 hd hva hvb hvd (k H locs ls hP hD hS hl)
theorem g_dup2 (C : CX p s m args c cc nL own Ts D cl tys) {va vb : Value} (hd : decode cc pc = .ok (.dup2, 1)) (hva : va.category = 1) (hvb : vb.category = 1) (hn : pc + 1 = n) (k : GG p l e R s m args below meth c D cl A nL nc ns Q w x lv n (va :: vb :: va :: vb :: st)) : GG p l e R s m args below meth c D cl A nL nc ns Q w x lv pc (va :: vb :: st) :=
  fun H locs ls hP hD hS hl => by subst hn; exact lv_dup2_11 C.1 C.2.1 hd hva hvb (k H locs ls hP hD hS hl)
theorem r32_0 : r32 0 := by decide
theorem g_icmp_eq (C : CX p s m args c cc nL own Ts D cl tys) {a b : Int} {off : Int} {tgt : Nat} (hd : decode cc pc = .ok (.if_icmp .eq off, 3)) (ht : (pc : Int) + off = (tgt : Int)) (hn : pc + 3 = n) (ha : r32 a) (hb : r32 b) (kt : a = b → GG p l e R s m args below meth c D cl A nL nc ns Q w x lv tgt st) (kf : a ≠ b → GG p l e R s m args below meth c D cl A nL nc ns Q w x lv n st) : GG p l e R s m args below meth c D cl A nL nc ns Q w x lv pc (.int (iI b) :: .int (iI a) :: st) :=
  fun H locs ls hP hD hS hl => by
    subst hn
    exact lv_icmp_eq C.1 C.2.1 hd ht (fun h => kt ((iI_eq ha hb).mp h) H locs ls hP hD hS hl) (fun h => kf (fun q => h ((iI_eq ha hb).mpr q)) H locs ls hP hD hS hl)
theorem g_icmp_ne (C : CX p s m args c cc nL own Ts D cl tys) {a b : Int} {off : Int} {tgt : Nat} (hd : decode cc pc = .ok (.if_icmp .ne off, 3)) (ht : (pc : Int) + off = (tgt : Int)) (hn : pc + 3 = n) (ha : r32 a) (hb : r32 b) (kt : a ≠ b → GG p l e R s m args below meth c D cl A nL nc ns Q w x lv tgt st) (kf : a = b → GG p l e R s m args below meth c D cl A nL nc ns Q w x lv n st) : GG p l e R s m args below meth c D cl A nL nc ns Q w x lv pc (.int (iI b) :: .int (iI a) :: st) :=
  fun H locs ls hP hD hS hl => by
    subst hn
    exact lv_icmp_ne C.1 C.2.1 hd ht (fun h => kt (fun q => h ((iI_eq ha hb).mpr q)) H locs ls hP hD hS hl) (fun h => kf ((iI_eq ha hb).mp h) H locs ls hP hD hS hl)
theorem g_icmp_lt (C : CX p s m args c cc nL own Ts D cl tys) {a b : Int} {off : Int} {tgt : Nat} (hd : decode cc pc = .ok (.if_icmp .lt off, 3)) (ht : (pc : Int) + off = (tgt : Int)) (hn : pc + 3 = n) (ha : r32 a) (hb : r32 b) (kt : a < b → GG p l e R s m args below meth c D cl A nL nc ns Q w x lv tgt st) (kf : b ≤ a → GG p l e R s m args below meth c D cl A nL nc ns Q w x lv n st) : GG p l e R s m args below meth c D cl A nL nc ns Q w x lv pc (.int (iI b) :: .int (iI a) :: st) :=
  fun H locs ls hP hD hS hl => by
    subst hn
    exact lv_icmp_lt C.1 C.2.1 hd ht (fun h => kt ((iI_lt ha hb).mp h) H locs ls hP hD hS hl) (fun h => kf (Int.not_lt.mp (fun q => h ((iI_lt ha hb).mpr q))) H locs ls hP hD hS hl)
theorem g_icmp_ge (C : CX p s m args c cc nL own Ts D cl tys) {a b : Int} {off : Int} {tgt : Nat} (hd : decode cc pc = .ok (.if_icmp .ge off, 3)) (ht : (pc : Int) + off = (tgt : Int)) (hn : pc + 3 = n) (ha : r32 a) (hb : r32 b) (kt : b ≤ a → GG p l e R s m args below meth c D cl A nL nc ns Q w x lv tgt st) (kf : a < b → GG p l e R s m args below meth c D cl A nL nc ns Q w x lv n st) : GG p l e R s m args below meth c D cl A nL nc ns Q w x lv pc (.int (iI b) :: .int (iI a) :: st) :=
  fun H locs ls hP hD hS hl => by
    subst hn
    exact lv_icmp_ge C.1 C.2.1 hd ht (fun h => kt ((iI_le hb ha).mp h) H locs ls hP hD hS hl) (fun h => kf (Int.not_le.mp (fun q => h ((iI_le hb ha).mpr q))) H locs ls hP hD hS hl)
theorem g_icmp_gt (C : CX p s m args c cc nL own Ts D cl tys) {a b : Int} {off : Int} {tgt : Nat} (hd : decode cc pc = .ok (.if_icmp .gt off, 3)) (ht : (pc : Int) + off = (tgt : Int)) (hn : pc + 3 = n) (ha : r32 a) (hb : r32 b) (kt : b < a → GG p l e R s m args below meth c D cl A nL nc ns Q w x lv tgt st) (kf : a ≤ b → GG p l e R s m args below meth c D cl A nL nc ns Q w x lv n st) : GG p l e R s m args below meth c D cl A nL nc ns Q w x lv pc (.int (iI b) :: .int (iI a) :: st) :=
  fun H locs ls hP hD hS hl => by
    subst hn
    exact lv_icmp_gt C.1 C.2.1 hd ht (fun h => kt ((iI_lt hb ha).mp h) H locs ls hP hD hS hl) (fun h => kf (Int.not_lt.mp (fun q => h ((iI_lt hb ha).mpr q))) H locs ls hP hD hS hl)
theorem g_icmp_le (C : CX p s m args c cc nL own Ts D cl tys) {a b : Int} {off : Int} {tgt : Nat} (hd : decode cc pc = .ok (.if_icmp .le off, 3)) (ht : (pc : Int) + off = (tgt : Int)) (hn : pc + 3 = n) (ha : r32 a) (hb : r32 b) (kt : a ≤ b → GG p l e R s m args below meth c D cl A nL nc ns Q w x lv tgt st) (kf : b < a → GG p l e R s m args below meth c D cl A nL nc ns Q w x lv n st) : GG p l e R s m args below meth c D cl A nL nc ns Q w x lv pc (.int (iI b) :: .int (iI a) :: st) :=
  fun H locs ls hP hD hS hl => by
    subst hn
    exact lv_icmp_le C.1 C.2.1 hd ht (fun h => kt ((iI_le ha hb).mp h) H locs ls hP hD hS hl) (fun h => kf (Int.not_le.mp (fun q => h ((iI_le ha hb).mpr q))) H locs ls hP hD hS hl)
theorem g_if_eq (C : CX p s m args c cc nL own Ts D cl tys) {a : Int} {off : Int} {tgt : Nat} (hd : decode cc pc = .ok (.ifCond .eq off, 3)) (ht : (pc : Int) + off = (tgt : Int)) (hn : pc + 3 = n) (ha : r32 a) (kt : a = 0 → GG p l e R s m args below meth c D cl A nL nc ns Q w x lv tgt st) (kf : a ≠ 0 → GG p l e R s m args below meth c D cl A nL nc ns Q w x lv n st) : GG p l e R s m args below meth c D cl A nL nc ns Q w x lv pc (.int (iI a) :: st) :=
  fun H locs ls hP hD hS hl => by
    subst hn
    have hb := r32_0
    exact lv_if_eq C.1 C.2.1 hd ht (fun h => kt ((iI_eq ha hb).mp h) H locs ls hP hD hS hl) (fun h => kf (fun q => h ((iI_eq ha hb).mpr q)) H locs ls hP hD hS hl)
theorem g_if_ne (C : CX p s m args c cc nL own Ts D cl tys) {a : Int} {off : Int} {tgt : Nat} (hd : decode cc pc = .ok (.ifCond .ne off, 3)) (ht : (pc : Int) + off = (tgt : Int)) (hn : pc + 3 = n) (ha : r32 a) (kt : a ≠ 0 → GG p l e R s m args below meth c D cl A nL nc ns Q w x lv tgt st) (kf : a = 0 → GG p l e R s m args below meth c D cl A nL nc ns Q w x lv n st) : GG p l e R s m args below meth c D cl A nL nc ns Q w x lv pc (.int (iI a) :: st) :=
  fun H locs ls hP hD hS hl => by
    subst hn
    have hb := r32_0
    exact lv_if_ne C.1 C.2.1 hd ht (fun h => kt (fun q => h ((iI_eq ha hb).mpr q)) H locs ls hP hD hS hl) (fun h => kf ((iI_eq ha hb).mp h) H locs ls hP hD hS hl)
theorem g_if_lt (C : CX p s m args c cc nL own Ts D cl tys) {a : Int} {off : Int} {tgt : Nat} (hd : decode cc pc = .ok (.ifCond .lt off, 3)) (ht : (pc : Int) + off = (tgt : Int)) (hn : pc + 3 = n) (ha : r32 a) (kt : a < 0 → GG p l e R s m args below meth c D cl A nL nc ns Q w x lv tgt st) (kf : 0 ≤ a → GG p l e R s m args below meth c D cl A nL nc ns Q w x lv n st) : GG p l e R s m args below meth c D cl A nL nc ns Q w x lv pc (.int (iI a) :: st) :=
  fun H locs ls hP hD hS hl => by
    subst hn
    have hb := r32_0
    exact lv_if_lt C.1 C.2.1 hd ht (fun h => kt ((iI_lt ha hb).mp h) H locs ls hP hD hS hl) (fun h => kf (Int.not_lt.mp (fun q => h ((iI_lt ha hb).mpr q))) H locs ls hP hD hS hl)
theorem g_if_ge (C : CX p s m args c cc nL own Ts D cl tys) {a : Int} {off : Int} {tgt : Nat} (hd : decode cc pc = .ok (.ifCond .ge off, 3)) (ht : (pc : Int) + off = (tgt : Int)) (hn : pc + 3 = n) (ha : r32 a) (kt : 0 ≤ a → GG p l e R s m args below meth c D cl A nL nc ns Q w x lv tgt st) (kf : a < 0 → GG p l e R s m args below meth c D cl A nL nc ns Q w x lv n st) : GG p l e R s m args below meth c D cl A nL nc ns Q w x lv pc (.int (iI a) :: st) :=
  fun H locs ls hP hD hS hl => by
    subst hn
    have hb := r32_0
    exact lv_if_ge C.1 C.2.1 hd ht (fun h => kt ((iI_le hb ha).mp h) H locs ls hP hD hS hl) (fun h => kf (Int.not_le.mp (fun q => h ((iI_le hb ha).mpr q))) H locs ls hP hD hS hl)
theorem g_if_gt (C : CX p s m args c cc nL own Ts D cl tys) {a : Int} {off : Int} {tgt : Nat} (hd : decode cc pc = .ok (.ifCond .gt off, 3)) (ht : (pc : Int) + off = (tgt : Int)) (hn : pc + 3 = n) (ha : r32 a) (kt : 0 < a → GG p l e R s m args below meth c D cl A nL nc ns Q w x lv tgt st) (kf : a ≤ 0 → GG p l e R s m args below meth c D cl A nL nc ns Q w x lv n st) : GG p l e R s m args below meth c D cl A nL nc ns Q w x lv pc (.int (iI a) :: st) :=
  fun H locs ls hP hD hS hl => by
    subst hn
    have hb := r32_0
    exact lv_if_gt C.1 C.2.1 hd ht (fun h => kt ((iI_lt hb ha).mp h) H locs ls hP hD hS hl) (fun h => kf (Int.not_lt.mp (fun q => h ((iI_lt hb ha).mpr q))) H locs ls hP hD hS hl)
theorem g_if_le (C : CX p s m args c cc nL own Ts D cl tys) {a : Int} {off : Int} {tgt : Nat} (hd : decode cc pc = .ok (.ifCond .le off, 3)) (ht : (pc : Int) + off = (tgt : Int)) (hn : pc + 3 = n) (ha : r32 a) (kt : a ≤ 0 → GG p l e R s m args below meth c D cl A nL nc ns Q w x lv tgt st) (kf : 0 < a → GG p l e R s m args below meth c D cl A nL nc ns Q w x lv n st) : GG p l e R s m args below meth c D cl A nL nc ns Q w x lv pc (.int (iI a) :: st) :=
  fun H locs ls hP hD hS hl => by
    subst hn
    have hb := r32_0
    exact lv_if_le C.1 C.2.1 hd ht (fun h => kt ((iI_le ha hb).mp h) H locs ls hP hD hS hl) (fun h => kf (Int.not_le.mp (fun q => h ((iI_le ha hb).mpr q))) H locs ls hP hD hS hl)
theorem g_goto (C : CX p s m args c cc nL own Ts D cl tys) {off : Int} {tgt : Nat} (hd : decode cc pc = .ok (.goto off, 3)) (ht : (pc : Int) + off = (tgt : Int)) (k : GG p l e R s m args below meth c D cl A nL nc ns Q w x lv tgt st) : GG p l e R s m args below meth c D cl A nL nc ns Q w x lv pc st :=
  fun H locs ls hP hD hS hl => lv_goto C.1 C.2.1 hd ht (k H locs ls hP hD hS hl)
theorem g_nm {z : Int} (k : ∀ y : Int, y = z → GG p l e R s m args below meth c D cl A nL nc ns Q w x lv pc (.int (iI y) :: st)) : GG p l e R s m args below meth c D cl A nL nc ns Q w x lv pc (.int (iI z) :: st) := k z rfl
theorem g_nml {z : Int} (k : ∀ y : Int, y = z → GG p l e R s m args below meth c D cl A nL nc ns Q w x lv pc (.long (lI y) :: st)) : GG p l e R s m args below meth c D cl A nL nc ns Q w x lv pc (.long (lI z) :: st) := k z rfl
/-- -1, 0 or 1 -/
def sg (a b : Int) : Int := if b < a then 1 else if a = b then 0 else -1
theorem sg_r (a b : Int) : r32 (sg a b) := by unfold sg; split; decide; split <;> decide
theorem sg_le {a b : Int} : sg a b ≤ 0 ↔ a ≤ b := by unfold sg; split; omega; split <;> omega
theorem sg_ge {a b : Int} : 0 ≤ sg a b ↔ b ≤ a := by unfold sg; split; omega; split <;> omega
theorem sg_lt {a b : Int} : sg a b < 0 ↔ a < b := by unfold sg; split; omega; split <;> omega
theorem sg_gt {a b : Int} : 0 < sg a b ↔ b < a := by unfold sg; split; omega; split <;> omega
theorem g_lcmp (C : CX p s m args c cc nL own Ts D cl tys) {a b : Int} (hd : decode cc pc = .ok (.lcmp, 1)) (ha : r64 a) (hb : r64 b) (hn : pc + 1 = n) (k : GG p l e R s m args below meth c D cl A nL nc ns Q w x lv n (.int (iI (sg a b)) :: st)) : GG p l e R s m args below meth c D cl A nL nc ns Q w x lv pc (.long (lI b) :: .long (lI a) :: st) :=
  fun H locs ls hP hD hS hl => by
    subst hn
    refine W.lcmp C.1 C.2.1 hd ?_
    have h := k H locs ls hP hD hS hl
    have e1 := lI_lt hb ha
    have e3 : lI a = lI b ↔ a = b := by rw [← Int64.toInt_inj, lI_t ha, lI_t hb]
    have e : lg_cmp (lI a) (lI b) = iI (sg a b) := by
      unfold lg_cmp sg
      by_cases c1 : b < a
      · rw [if_pos (e1.mpr c1), if_pos c1]; rfl
      · rw [if_neg (fun q => c1 (e1.mp q)), if_neg c1]
        by_cases c2 : a = b
        · rw [if_pos (e3.mpr c2), if_pos c2]; rfl
        · rw [if_neg (fun q => c2 (e3.mp q)), if_neg c2]; rfl
    rw [e]
    exact h
theorem GG.lvs (h : ∀ q ∈ lv', lk lv q.1 = some q.2) (k : GG p l e R s m args below meth c D cl A nL nc ns Q w x lv' pc st) : GG p l e R s m args below meth c D cl A nL nc ns Q w x lv pc st :=
  fun H locs ls hP hD hS hl => k H locs ls hP hD hS ⟨hl.1, hl.2.1, fun q hq => lk_at (nL := nL) hl.2.2 (h q hq)⟩
theorem GG.at {x' : τ} (h : x = x') (k : GG p l e R s m args below meth c D cl A nL nc ns Q w x' lv pc st) : GG p l e R s m args below meth c D cl A nL nc ns Q w x lv pc st := h ▸ k
theorem g_pop2 (C : CX p s m args c cc nL own Ts D cl tys) {va : Value} (hd : decode cc pc = .ok (.pop2, 1)) (hva : va.category = 2) (hn : pc + 1 = n) (k : GG p l e R s m args below meth c D cl A nL nc ns Q w x lv n st) : GG p l e R s m args below meth c D cl A nL nc ns Q w x lv pc (va :: st) :=
  fun H locs ls hP hD hS hl => by subst hn; exact lv_pop2_2 C.1 C.2.1 hd hva (k H locs ls hP hD hS hl)
/-! fields -/
theorem g_get (C : CX p s m args c cc nL own Ts D cl tys) {ref Cn : String} {T : u_T} {N ci index a : Nat} {fs : List Value} {v : Value} (q0 k : Nat) (hin : ∀ wd ∈ u_ws Cn T N, wd ∈ Ts) (he : (w x)[q0]? = some (a, .inr (ci, fs))) (hc : cl[ci]? = some (Cn, T, N)) (hk : k < N) (hlink : Cond.fieldLink own index ref (T k).2.1 (T k).2.2.1 ∈ Ts) (hs : (T k).1 = ref) (hv : fs[k]? = some v) (hd : decode cc pc = .ok (.getfield index, 3)) (hn : pc + 3 = n)
    (kk : GG p l e R s m args below meth c D cl A nL nc ns Q w x lv n (v :: st)) : GG p l e R s m args below meth c D cl A nL nc ns Q w x lv pc (.ref a :: st) :=
  fun H locs ls hP hD hS hl => by
    subst hn
    exact va_get C.1 C.2.1 C.2.2.2.2.1 hin C.2.2.2.1 C.2.2.2.2.2.1 hP q0 he hc k hk (C.2.2.2.2.1 _ hlink) (fun y hy => hs ▸ hy) hv hd (kk H locs ls hP hD hS hl)
theorem g_getN (C : CX p s m args c cc nL own Ts D cl tys) {ref Cn host : String} {T : u_T} {N ci index a : Nat} {fs : List Value} {v : Value} (q0 k : Nat) (hin : ∀ wd ∈ u_ws Cn T N, wd ∈ Ts) (he : (w x)[q0]? = some (a, .inr (ci, fs))) (hc : cl[ci]? = some (Cn, T, N)) (hk : k < N) (hlink : Cond.fieldLinkNest own index ref (T k).2.1 (T k).2.2.1 host ∈ NN) (hs : (T k).1 = ref) (hv : fs[k]? = some v) (hd : decode cc pc = .ok (.getfield index, 3)) (hn : pc + 3 = n)
    (kk : GG p l e R s m args below meth c D cl A nL nc ns Q w x lv n (v :: st)) : GG p l e R s m args below meth c D cl A nL nc ns Q w x lv pc (.ref a :: st) :=
  fun H locs ls hP hD hS hl => by
    subst hn
    exact va_getN C.1 C.2.1 C.2.2.2.2.1 hin C.2.2.2.1 C.2.2.2.2.2.1 hP q0 he hc k hk (va_Nw.use rfl (C.2.2.2.2.2.2 _ hlink)) (fun y hy => hs ▸ hy) hv hd (kk H locs ls hP hD hS hl)
theorem g_put (C : CX p s m args c cc nL own Ts D cl tys) {ref Cn : String} {T : u_T} {N ci index a : Nat} {fs : List Value} {v : Value} {ty : FieldType} {x' : τ} (q0 k : Nat) (ty0 : Nat → FieldType) (hin : ∀ wd ∈ u_ws Cn T N, wd ∈ Ts) (hty : ∀ k, k < N → parseFieldDescriptor (T k).2.2.1 = some (ty0 k)) (hnm : ∀ a, a < N → ∀ b, b < N → a ≠ b → (T a).2.1 ≠ (T b).2.1) (he : (w x)[q0]? = some (a, .inr (ci, fs))) (hc : cl[ci]? = some (Cn, T, N)) (hk : k < N) (hlink : Cond.fieldLink own index ref (T k).2.1 (T k).2.2.1 ∈ Ts) (hs : (T k).1 = ref) (hfin : (T k).2.2.2 = false) (hp : parseFieldDescriptor (T k).2.2.1 = some ty) (hnar : narrow ty v = v) (hfit : fits ty v = true) (hlen : k < fs.length) (hw : (w x).set q0 (a, .inr (ci, fs.set k v)) = w x') (hd : decode cc pc = .ok (.putfield index, 3)) (hn : pc + 3 = n)
    (kk : GG p l e R s m args below meth c D cl A nL nc ns Q w x' lv n st) : GG p l e R s m args below meth c D cl A nL nc ns Q w x lv pc (v :: .ref a :: st) :=
  fun H locs ls hP hD hS hl => by
    subst hn
    refine va_put C.1 C.2.1 C.2.2.2.2.1 hin ty0 hty hnm C.2.2.2.1 C.2.2.2.2.2.1 hP hD hS q0 he hc k hk (C.2.2.2.2.1 _ hlink) (fun y hy => hs ▸ hy) hfin hp hnar hfit hlen hd (fun H1 locs1 hP1 hD1 hS1 => ?_)
    rw [hw] at hP1 hD1
    exact kk H1 locs1 ls hP1 hD1 hS1 hl
theorem g_putN (C : CX p s m args c cc nL own Ts D cl tys) {ref Cn host : String} {T : u_T} {N ci index a : Nat} {fs : List Value} {v : Value} {ty : FieldType} {x' : τ} (q0 k : Nat) (ty0 : Nat → FieldType) (hin : ∀ wd ∈ u_ws Cn T N, wd ∈ Ts) (hty : ∀ k, k < N → parseFieldDescriptor (T k).2.2.1 = some (ty0 k)) (hnm : ∀ a, a < N → ∀ b, b < N → a ≠ b → (T a).2.1 ≠ (T b).2.1) (he : (w x)[q0]? = some (a, .inr (ci, fs))) (hc : cl[ci]? = some (Cn, T, N)) (hk : k < N) (hlink : Cond.fieldLinkNest own index ref (T k).2.1 (T k).2.2.1 host ∈ NN) (hs : (T k).1 = ref) (hfin : (T k).2.2.2 = false) (hp : parseFieldDescriptor (T k).2.2.1 = some ty) (hnar : narrow ty v = v) (hfit : fits ty v = true) (hlen : k < fs.length) (hw : (w x).set q0 (a, .inr (ci, fs.set k v)) = w x') (hd : decode cc pc = .ok (.putfield index, 3)) (hn : pc + 3 = n)
    (kk : GG p l e R s m args below meth c D cl A nL nc ns Q w x' lv n st) : GG p l e R s m args below meth c D cl A nL nc ns Q w x lv pc (v :: .ref a :: st) :=
  fun H locs ls hP hD hS hl => by
    subst hn
    refine va_putN C.1 C.2.1 C.2.2.2.2.1 hin ty0 hty hnm C.2.2.2.1 C.2.2.2.2.2.1 hP hD hS q0 he hc k hk (va_Nw.use rfl (C.2.2.2.2.2.2 _ hlink)) (fun y hy => hs ▸ hy) hfin hp hnar hfit hlen hd (fun H1 locs1 hP1 hD1 hS1 => ?_)
    rw [hw] at hP1 hD1
    exact kk H1 locs1 ls hP1 hD1 hS1 hl
/-! arrays -/
def ia (f : Int → Int) : Nat → Int32 := fun j => iI (f (j : Int))
def la (f : Int → Int) : Nat → Int64 := fun j => lI (f (j : Int))
theorem ia_at {f : Int → Int} {z : Int} (h0 : 0 ≤ z) (h1 : z < 2147483648) : ia f (iI z).toNatClampNeg = iI (f z) := by
  unfold ia
  rw [iI_cl h0 h1, Int.toNat_of_nonneg h0]
theorem la_at {f : Int → Int} {z : Int} (h0 : 0 ≤ z) (h1 : z < 2147483648) : la f (iI z).toNatClampNeg = lI (f z) := by
  unfold la
  rw [iI_cl h0 h1, Int.toNat_of_nonneg h0]
theorem ia_up {f : Int → Int} {z v : Int} (h0 : 0 ≤ z) (h1 : z < 2147483648) : upd (ia f) (iI z).toNatClampNeg (iI v) = ia (up_ f z v) := by
  funext j
  unfold upd ia up_
  rw [iI_cl h0 h1]
  by_cases c : j = z.toNat
  · rw [if_pos c, if_pos (by omega)]
  · rw [if_neg c, if_neg (by omega)]
theorem la_up {f : Int → Int} {z v : Int} (h0 : 0 ≤ z) (h1 : z < 2147483648) : vp_updL (la f) (iI z).toNatClampNeg (lI v) = la (up_ f z v) := by
  funext j
  unfold vp_updL la up_
  rw [iI_cl h0 h1]
  by_cases c : j = z.toNat
  · rw [if_pos c, if_pos (by omega)]
  · rw [if_neg c, if_neg (by omega)]
theorem g_iald (C : CX p s m args c cc nL own Ts D cl tys) {a N : Nat} {cA : ClassId} {f : Int → Int} {z : Int} (q0 t0 : Nat) (he : (w x)[q0]? = some (a, .inl (cA, N, .inl (ia f)))) (ht : tys[t0]? = some (cA, .int)) (h0 : 0 ≤ z) (h1 : z < N) (hN : N < 2147483648) (hd : decode cc pc = .ok (.iaload, 1)) (hn : pc + 1 = n)
    (kk : GG p l e R s m args below meth c D cl A nL nc ns Q w x lv n (.int (iI (f z)) :: st)) : GG p l e R s m args below meth c D cl A nL nc ns Q w x lv pc (.int (iI z) :: .ref a :: st) :=
  fun H locs ls hP hD hS hl => by
    subst hn
    refine va_iald C.1 C.2.1 C.2.2.2.2.2.1 hP q0 t0 he ht (iI_in h0 h1 hN) hd ?_
    rw [ia_at h0 (by omega)]
    exact kk H locs ls hP hD hS hl
theorem g_zald (C : CX p s m args c cc nL own Ts D cl tys) {a N : Nat} {cA : ClassId} {f : Int → Int} {z : Int} (q0 t0 : Nat) (he : (w x)[q0]? = some (a, .inl (cA, N, .inl (ia f)))) (ht : tys[t0]? = some (cA, .boolean)) (h0 : 0 ≤ z) (h1 : z < N) (hN : N < 2147483648) (hd : decode cc pc = .ok (.baload, 1)) (hn : pc + 1 = n)
    (kk : GG p l e R s m args below meth c D cl A nL nc ns Q w x lv n (.int (iI (f z)) :: st)) : GG p l e R s m args below meth c D cl A nL nc ns Q w x lv pc (.int (iI z) :: .ref a :: st) :=
  fun H locs ls hP hD hS hl => by
    subst hn
    refine va_zald C.1 C.2.1 C.2.2.2.2.2.1 hP q0 t0 he ht (iI_in h0 h1 hN) hd ?_
    rw [ia_at h0 (by omega)]
    exact kk H locs ls hP hD hS hl
theorem g_lald (C : CX p s m args c cc nL own Ts D cl tys) {a N : Nat} {cA : ClassId} {f : Int → Int} {z : Int} (q0 t0 : Nat) (he : (w x)[q0]? = some (a, .inl (cA, N, .inr (.inl (la f))))) (ht : tys[t0]? = some (cA, .long)) (h0 : 0 ≤ z) (h1 : z < N) (hN : N < 2147483648) (hd : decode cc pc = .ok (.laload, 1)) (hn : pc + 1 = n)
    (kk : GG p l e R s m args below meth c D cl A nL nc ns Q w x lv n (.long (lI (f z)) :: st)) : GG p l e R s m args below meth c D cl A nL nc ns Q w x lv pc (.int (iI z) :: .ref a :: st) :=
  fun H locs ls hP hD hS hl => by
    subst hn
    refine va_lald C.1 C.2.1 C.2.2.2.2.2.1 hP q0 t0 he ht (iI_in h0 h1 hN) hd ?_
    rw [la_at h0 (by omega)]
    exact kk H locs ls hP hD hS hl
theorem g_iast (C : CX p s m args c cc nL own Ts D cl tys) {a N : Nat} {cA : ClassId} {f : Int → Int} {z v : Int} {x' : τ} (q0 t0 : Nat) (he : (w x)[q0]? = some (a, .inl (cA, N, .inl (ia f)))) (ht : tys[t0]? = some (cA, .int)) (h0 : 0 ≤ z) (h1 : z < N) (hN : N < 2147483648) (hw : (w x).set q0 (a, .inl (cA, N, .inl (ia (up_ f z v)))) = w x') (hd : decode cc pc = .ok (.iastore, 1)) (hn : pc + 1 = n)
    (kk : GG p l e R s m args below meth c D cl A nL nc ns Q w x' lv n st) : GG p l e R s m args below meth c D cl A nL nc ns Q w x lv pc (.int (iI v) :: .int (iI z) :: .ref a :: st) :=
  fun H locs ls hP hD hS hl => by
    subst hn
    refine va_iast C.1 C.2.1 C.2.2.2.2.2.1 hP hD hS q0 t0 he ht (iI_in h0 h1 hN) hd (fun H1 locs1 hP1 hD1 hS1 => ?_)
    rw [ia_up h0 (by omega), hw] at hP1 hD1
    exact kk H1 locs1 ls hP1 hD1 hS1 hl
theorem nar_z {v : Int} (h : v = 0 ∨ v = 1) : vp_nar .boolean (iI v) = iI v := by rcases h with rfl | rfl <;> decide +kernel
theorem g_zast (C : CX p s m args c cc nL own Ts D cl tys) {a N : Nat} {cA : ClassId} {f : Int → Int} {z v : Int} {x' : τ} (q0 t0 : Nat) (he : (w x)[q0]? = some (a, .inl (cA, N, .inl (ia f)))) (ht : tys[t0]? = some (cA, .boolean)) (h0 : 0 ≤ z) (h1 : z < N) (hN : N < 2147483648) (hv : v = 0 ∨ v = 1) (hw : (w x).set q0 (a, .inl (cA, N, .inl (ia (up_ f z v)))) = w x') (hd : decode cc pc = .ok (.bastore, 1)) (hn : pc + 1 = n)
    (kk : GG p l e R s m args below meth c D cl A nL nc ns Q w x' lv n st) : GG p l e R s m args below meth c D cl A nL nc ns Q w x lv pc (.int (iI v) :: .int (iI z) :: .ref a :: st) :=
  fun H locs ls hP hD hS hl => by
    subst hn
    refine va_zast C.1 C.2.1 C.2.2.2.2.2.1 hP hD hS q0 t0 he ht (iI_in h0 h1 hN) hd (fun H1 locs1 hP1 hD1 hS1 => ?_)
    rw [nar_z hv, ia_up h0 (by omega), hw] at hP1 hD1
    exact kk H1 locs1 ls hP1 hD1 hS1 hl
theorem g_last (C : CX p s m args c cc nL own Ts D cl tys) {a N : Nat} {cA : ClassId} {f : Int → Int} {z v : Int} {x' : τ} (q0 t0 : Nat) (he : (w x)[q0]? = some (a, .inl (cA, N, .inr (.inl (la f))))) (ht : tys[t0]? = some (cA, .long)) (h0 : 0 ≤ z) (h1 : z < N) (hN : N < 2147483648) (hw : (w x).set q0 (a, .inl (cA, N, .inr (.inl (la (up_ f z v))))) = w x') (hd : decode cc pc = .ok (.lastore, 1)) (hn : pc + 1 = n)
    (kk : GG p l e R s m args below meth c D cl A nL nc ns Q w x' lv n st) : GG p l e R s m args below meth c D cl A nL nc ns Q w x lv pc (.long (lI v) :: .int (iI z) :: .ref a :: st) :=
  fun H locs ls hP hD hS hl => by
    subst hn
    refine va_last C.1 C.2.1 C.2.2.2.2.2.1 hP hD hS q0 t0 he ht (iI_in h0 h1 hN) hd (fun H1 locs1 hP1 hD1 hS1 => ?_)
    rw [la_up h0 (by omega), hw] at hP1 hD1
    exact kk H1 locs1 ls hP1 hD1 hS1 hl
theorem g_aald (C : CX p s m args c cc nL own Ts D cl tys) {a N r : Nat} {cA : ClassId} {f : Nat → Option Nat} {z : Int} {t : FieldType} (q0 t0 : Nat) (he : (w x)[q0]? = some (a, .inl (cA, N, .inr (.inr (.inr (.inr f)))))) (ht : tys[t0]? = some (cA, .array t)) (h0 : 0 ≤ z) (h1 : z < N) (hN : N < 2147483648) (hf : f z.toNat = some r) (hd : decode cc pc = .ok (.aaload, 1)) (hn : pc + 1 = n)
    (kk : GG p l e R s m args below meth c D cl A nL nc ns Q w x lv n (.ref r :: st)) : GG p l e R s m args below meth c D cl A nL nc ns Q w x lv pc (.int (iI z) :: .ref a :: st) :=
  fun H locs ls hP hD hS hl => by
    subst hn
    have hin : vp_in (iI z) N := iI_in h0 h1 hN
    have hlt : (iI z).toNatClampNeg < N := Nat.not_le.mp fun q => hin (Or.inr q)
    refine W.aald (v := va_rf (f (iI z).toNatClampNeg)) (ty := .array t) C.1 C.2.1 (hP q0 _ he) ((C.2.2.2.2.2.1.2 t0 _ ht).1 N (fun j => va_rf (f j))) rfl (fun q => by cases q) (by show ¬ (iI z < 0 ∨ (arrV _ _ _).slots.size ≤ _); rw [arrV_size]; exact hin) (by show (arrV _ _ _).slots[_]? = _; rw [arrV_read _ _ hlt]) rfl rfl hd ?_
    rw [iI_cl h0 (by omega), hf]
    exact kk H locs ls hP hD hS hl
end GR
