/-! calls that see a part of the world -/
section GF2
variable {p : Program} {l : Launch} {e : Env} {R : Room} {s : State} {m : MethodId} {args : Array Value} {below : List Frame} {meth : Method} {c : Code} {D : va_G} {cl : List vw_C} {tys : List (ClassId × FieldType)} {A : Nat → Prop} {nL nc ns : Nat} {Q : State → Prop} {cc : ByteArray} {own : String} {Ts : List Cond} {lv lv' : List (Nat × Value)} {pc n : Nat} {st st0 : List Value} {a : Array Value}
theorem P_left {w1 w2 : va_W} {H : Heap} (h : va_P D cl (w1 ++ w2) H) : va_P D cl w1 H := fun k q hk => h k q (by
  rw [List.getElem?_append_left (List.getElem?_eq_some_iff.mp hk).1]; exact hk)
theorem P_right {w1 w2 : va_W} {H : Heap} (h : va_P D cl (w1 ++ w2) H) : va_P D cl w2 H := fun k q hk => h (w1.length + k) q (by
  rw [List.getElem?_append_right (Nat.le_add_right _ _), Nat.add_sub_cancel_left]; exact hk)
theorem D_left {w1 w2 : va_W} (h : va_D A (w1 ++ w2)) : va_D A w1 := by
  have up : ∀ (k : Nat) (q : Nat × va_E), w1[k]? = some q → (w1 ++ w2)[k]? = some q := fun k q hk => by
    rw [List.getElem?_append_left (List.getElem?_eq_some_iff.mp hk).1]; exact hk
  exact ⟨fun i j x y hi hj hxy => h.1 i j x y (up i x hi) (up j y hj) hxy, fun k q hk => h.2 k q (up k q hk)⟩
theorem D_right {w1 w2 : va_W} (h : va_D A (w1 ++ w2)) : va_D A w2 := by
  have up : ∀ (k : Nat) (q : Nat × va_E), w2[k]? = some q → (w1 ++ w2)[w1.length + k]? = some q := fun k q hk => by
    rw [List.getElem?_append_right (Nat.le_add_right _ _), Nat.add_sub_cancel_left]; exact hk
  exact ⟨fun i j x y hi hj hxy => by have := h.1 _ _ x y (up i x hi) (up j y hj) hxy; omega, fun k q hk => h.2 _ q (up k q hk)⟩
theorem D_cross {w1 w2 : va_W} (h : va_D A (w1 ++ w2)) {q : Nat} (h1 : adr w1 q) (h2 : adr w2 q) : False := by
  obtain ⟨i, e1, g1⟩ := h1
  obtain ⟨j, e2, g2⟩ := h2
  have l1 := (List.getElem?_eq_some_iff.mp g1).1
  have := h.1 i (w1.length + j) (q, e1) (q, e2) (by rw [List.getElem?_append_left l1]; exact g1) (by rw [List.getElem?_append_right (Nat.le_add_right _ _), Nat.add_sub_cancel_left]; exact g2) rfl
  omega
/-- a call that sees the first part -/
theorem g_run1 {τ υ : Type} {w1 : τ → va_W} {w2 : υ → va_W} {x : τ} {y : υ} {post : Option Value → τ → Prop} (hfix : fixD w1) (hn : pc + 3 = n) (hr : ∀ (H : Heap) (locs : List Loc) (ls : Array Slot), va_P D cl (w1 x) H → va_D A (w1 x) → lv_has ls nL lv → va_Run p l e R s m args below meth c H locs nc ns 0 0 (F0 m pc ls st0) st (QcW D cl w1 x post a) (adr (w1 x)))
    (k : ∀ (v : Option Value) (x' : τ), post v x' → GG p l e R s m args below meth c D cl A nL nc ns Q (fun z : τ × υ => w1 z.1 ++ w2 z.2) (x', y) lv n (v.toList ++ st)) : GG p l e R s m args below meth c D cl A nL nc ns Q (fun z : τ × υ => w1 z.1 ++ w2 z.2) (x, y) lv pc st0 := by
  subst hn
  intro H locs ls hP hD hS hl T hT X
  have hP : va_P D cl (w1 x ++ w2 y) H := hP
  have hD : va_D A (w1 x ++ w2 y) := hD
  obtain ⟨v, st₀, t, T', L, h0, X', hL, e1, e2, ⟨⟨v', x', hv, hp, hPx⟩, hz, hk⟩, go⟩ := hr H locs ls (P_left hP) (D_left hD) hl T hT X
  cases hv
  have hsub : ∀ q, adr (w1 x) q → A q := fun q hq => by
    obtain ⟨k9, e9, h9⟩ := hq
    exact (D_left hD).2 k9 _ h9
  rw [h0] at hz hk
  have hP2 : va_P D cl (w2 y) t.heap := (P_right hP).kept (fun k9 q9 h9 => hk q9.1 ((P_right hP) k9 q9 h9).lt (fun z => D_cross hD z ⟨k9, q9.2, h9⟩))
  have hD2 : va_D A (w1 x' ++ w2 y) := D_map (by rw [List.map_append, List.map_append, hfix x x']) hD
  obtain ⟨t2, a1, b1⟩ := k v x' hp T'.heap (locs ++ L) ls (by rw [e1]; exact hPx.app hP2) hD2 ⟨Nat.le_trans hS.1 (by rw [e1]; exact hz), fun q h1 h2 => by
      rw [e1, hk q (Nat.lt_of_lt_of_le h1 hS.1) (fun z => h2 (hsub q z))]; exact hS.2.1 q h1 h2, fun q hq => by
      rcases List.mem_append.mp hq with h | h
      · exact hS.2.2 q h
      · exact hsub _ (hL q h)⟩ hl T' rfl X'
  exact ⟨t2, go t2 a1, b1⟩
/-- a call that sees the second part -/
theorem g_run2 {τ υ : Type} {w1 : τ → va_W} {w2 : υ → va_W} {x : τ} {y : υ} {post : Option Value → υ → Prop} (hfix : fixD w2) (hn : pc + 3 = n) (hr : ∀ (H : Heap) (locs : List Loc) (ls : Array Slot), va_P D cl (w2 y) H → va_D A (w2 y) → lv_has ls nL lv → va_Run p l e R s m args below meth c H locs nc ns 0 0 (F0 m pc ls st0) st (QcW D cl w2 y post a) (adr (w2 y)))
    (k : ∀ (v : Option Value) (y' : υ), post v y' → GG p l e R s m args below meth c D cl A nL nc ns Q (fun z : τ × υ => w1 z.1 ++ w2 z.2) (x, y') lv n (v.toList ++ st)) : GG p l e R s m args below meth c D cl A nL nc ns Q (fun z : τ × υ => w1 z.1 ++ w2 z.2) (x, y) lv pc st0 := by
  subst hn
  intro H locs ls hP hD hS hl T hT X
  have hP : va_P D cl (w1 x ++ w2 y) H := hP
  have hD : va_D A (w1 x ++ w2 y) := hD
  obtain ⟨v, st₀, t, T', L, h0, X', hL, e1, e2, ⟨⟨v', y', hv, hp, hPy⟩, hz, hk⟩, go⟩ := hr H locs ls (P_right hP) (D_right hD) hl T hT X
  cases hv
  have hsub : ∀ q, adr (w2 y) q → A q := fun q hq => by
    obtain ⟨k9, e9, h9⟩ := hq
    exact (D_right hD).2 k9 _ h9
  rw [h0] at hz hk
  have hP1 : va_P D cl (w1 x) t.heap := (P_left hP).kept (fun k9 q9 h9 => hk q9.1 ((P_left hP) k9 q9 h9).lt (fun z => D_cross hD ⟨k9, q9.2, h9⟩ z))
  have hD2 : va_D A (w1 x ++ w2 y') := D_map (by rw [List.map_append, List.map_append, hfix y y']) hD
  obtain ⟨t2, a1, b1⟩ := k v y' hp T'.heap (locs ++ L) ls (by rw [e1]; exact hP1.app hPy) hD2 ⟨Nat.le_trans hS.1 (by rw [e1]; exact hz), fun q h1 h2 => by
      rw [e1, hk q (Nat.lt_of_lt_of_le h1 hS.1) (fun z => h2 (hsub q z))]; exact hS.2.1 q h1 h2, fun q hq => by
      rcases List.mem_append.mp hq with h | h
      · exact hS.2.2 q h
      · exact hsub _ (hL q h)⟩ hl T' rfl X'
  exact ⟨t2, go t2 a1, b1⟩
/-- a call that sees one cell -/
theorem g_run0 {τ υ : Type} {w : τ → va_W} {x : τ} {q1 : Nat} {g : υ → va_E} {y : υ} {nx : υ → τ} {post : Option Value → υ → Prop} (k0 : Nat) (he : (w x)[k0]? = some (q1, g y)) (hw : ∀ y', post none y' → (w x).set k0 (q1, g y') = w (nx y')) (hv0 : ∀ v y', post v y' → v = none) (hn : pc + 3 = n) (hr : ∀ (H : Heap) (locs : List Loc) (ls : Array Slot), va_P D cl [(q1, g y)] H → va_D A [(q1, g y)] → lv_has ls nL lv → va_Run p l e R s m args below meth c H locs nc ns 0 0 (F0 m pc ls st0) st (QcW D cl (fun z => [(q1, g z)]) y post a) (adr [(q1, g y)]))
    (k : ∀ (y' : υ), post none y' → GG p l e R s m args below meth c D cl A nL nc ns Q w (nx y') lv n st) : GG p l e R s m args below meth c D cl A nL nc ns Q w x lv pc st0 := by
  subst hn
  intro H locs ls hP hD hS hl T hT X
  have one : ∀ (k : Nat) (q : Nat × va_E), ([(q1, g y)] : va_W)[k]? = some q → k = 0 ∧ q = (q1, g y) := fun k q h => by
    have h0 : k < 1 := (List.getElem?_eq_some_iff.mp h).1
    have : k = 0 := by omega
    subst this
    cases h
    exact ⟨rfl, rfl⟩
  obtain ⟨v, st₀, t, T', L, h0, X', hL, e1, e2, ⟨⟨v', y', hv, hp, hPy⟩, hz, hk⟩, go⟩ := hr H locs ls (fun k q h => by obtain ⟨-, rfl⟩ := one k q h; exact hP k0 _ he) ⟨fun i j x y hi hj _ => by rw [(one i x hi).1, (one j y hj).1], fun k q h => by obtain ⟨-, rfl⟩ := one k q h; exact hD.2 k0 _ he⟩ hl T hT X
  cases hv
  obtain rfl := hv0 _ _ hp
  have ha : ∀ q, adr [(q1, g y)] q → q = q1 := fun q hq => by
    obtain ⟨k9, e9, h9⟩ := hq
    have := (one k9 _ h9).2
    exact congrArg Prod.fst this
  have hq1 : A q1 := hD.2 k0 _ he
  rw [h0] at hz hk
  have hl0 := (List.getElem?_eq_some_iff.mp he).1
  have hP2 : va_P D cl (w (nx y')) t.heap := by
    rw [← hw y' hp]
    intro k9 q9 h9
    by_cases c : k9 = k0
    · subst c
      rw [List.getElem?_set_self hl0] at h9
      cases h9
      exact hPy 0 _ rfl
    · rw [List.getElem?_set_ne (Ne.symm c)] at h9
      exact (hP k9 q9 h9).kept (hk q9.1 (hP k9 q9 h9).lt (fun z => c (hD.1 k9 k0 q9 _ h9 he (ha _ z))))
  have hD2 : va_D A (w (nx y')) := by rw [← hw y' hp]; exact hD.set he
  obtain ⟨t2, a1, b1⟩ := k y' hp T'.heap (locs ++ L) ls (by rw [e1]; exact hP2) hD2 ⟨Nat.le_trans hS.1 (by rw [e1]; exact hz), fun q h1 h2 => by
      rw [e1, hk q (Nat.lt_of_lt_of_le h1 hS.1) (fun z => h2 (by rw [ha q z]; exact hq1))]; exact hS.2.1 q h1 h2, fun q hq => by
      rcases List.mem_append.mp hq with h | h
      · exact hS.2.2 q h
      · rw [ha _ (hL q h)]; exact hq1⟩ hl T' rfl X'
  exact ⟨t2, go t2 a1, b1⟩
end GF2
