/-! flows on a graph: x k on arc k, y v through node v; kappa of it from a to b. What a flow keeps, said by any price q of places -/
def GF (n N : Nat) (F T x y : Int → Int) (a b kp : Int) : Prop := ∀ q : Int → Int, sm (fun k => x k * (q (2 * F k + 1) - q (2 * T k))) n + sm (fun v => y v * (q (2 * v) - q (2 * v + 1))) N = kp * (q (2 * a + 1) - q (2 * b))
def bn (n : Nat) (x u : Int → Int) : Prop := ∀ k : Int, 0 ≤ k → k < n → 0 ≤ x k ∧ x k ≤ u k
/-- a price that no part of the flow undercuts -/
def PO (n N : Nat) (F T W x y u z p : Int → Int) : Prop :=
  (∀ k : Int, 0 ≤ k → k < n → (x k < u k → 0 ≤ W k + (p (2 * F k + 1) - p (2 * T k))) ∧ (0 < x k → W k + (p (2 * F k + 1) - p (2 * T k)) ≤ 0)) ∧
  (∀ v : Int, 0 ≤ v → v < N → (y v < z v → 0 ≤ p (2 * v) - p (2 * v + 1)) ∧ (0 < y v → p (2 * v) - p (2 * v + 1) ≤ 0))
theorem mul_up {x x' u c : Int} (h1 : x' ≤ u) (h0 : 0 ≤ x') (hu : x < u → 0 ≤ c) (hd : 0 < x → c ≤ 0) : x * c ≤ x' * c := by
  by_cases e : x < x'
  · exact Int.mul_le_mul_of_nonneg_right (by omega) (hu (by omega))
  · by_cases e2 : x = x'
    · rw [e2]; exact Int.le_refl _
    · have := hd (by omega)
      exact Int.mul_le_mul_of_nonpos_right (by omega) this
theorem gf_opt {n N : Nat} {F T W x y x' y' u z p : Int → Int} {a b kp : Int} (hp : PO n N F T W x y u z p) (h : GF n N F T x y a b kp) (h' : GF n N F T x' y' a b kp) (hx : bn n x' u) (hy : bn N y' z) : sm (fun k => x k * W k) n ≤ sm (fun k => x' k * W k) n := by
  have e1 := h p
  have e2 := h' p
  have k1 := sm_le (f := fun k => x k * (W k + (p (2 * F k + 1) - p (2 * T k)))) (g := fun k => x' k * (W k + (p (2 * F k + 1) - p (2 * T k)))) n (fun k k0 k1 => mul_up (hx k k0 k1).2 (hx k k0 k1).1 (hp.1 k k0 k1).1 (hp.1 k k0 k1).2)
  have k2 := sm_le (f := fun v => y v * (p (2 * v) - p (2 * v + 1))) (g := fun v => y' v * (p (2 * v) - p (2 * v + 1))) N (fun k k0 k1 => mul_up (hy k k0 k1).2 (hy k k0 k1).1 (hp.2 k k0 k1).1 (hp.2 k k0 k1).2)
  have s1 : sm (fun k => x k * (W k + (p (2 * F k + 1) - p (2 * T k)))) n = sm (fun k => x k * W k) n + sm (fun k => x k * (p (2 * F k + 1) - p (2 * T k))) n := by
    rw [← sm_add]; exact sm_congr n (fun k _ _ => Int.mul_add _ _ _)
  have s2 : sm (fun k => x' k * (W k + (p (2 * F k + 1) - p (2 * T k)))) n = sm (fun k => x' k * W k) n + sm (fun k => x' k * (p (2 * F k + 1) - p (2 * T k))) n := by
    rw [← sm_add]; exact sm_congr n (fun k _ _ => Int.mul_add _ _ _)
  omega
/-! cuts -/
def ic (R : Int → Bool) : Int → Int := fun q => if R q = true then 1 else 0
/-- the edge from q to r leaves R -/
def lv2 (R : Int → Bool) (q r c : Int) : Int := if R q = true ∧ R r = false then c else 0
theorem lv2_le {R : Int → Bool} {q r x c : Int} (h0 : 0 ≤ x) (h1 : x ≤ c) : x * (ic R q - ic R r) ≤ lv2 R q r c := by
  unfold ic lv2
  cases R q <;> cases R r <;> simp <;> omega
theorem lv2_eq {R : Int → Bool} {q r x c : Int} (h0 : R q = true → R r = false → x = c) (h1 : R q = false → R r = true → x = 0) : x * (ic R q - ic R r) = lv2 R q r c := by
  unfold ic lv2
  cases e1 : R q <;> cases e2 : R r <;> simp
  · exact h1 e1 e2
  · exact h0 e1 e2
theorem gf_cut {n N : Nat} {F T x y u z : Int → Int} {a b kp : Int} {R : Int → Bool} (h : GF n N F T x y a b kp) (hx : bn n x u) (hy : bn N y z) (hs : R (2 * a + 1) = true) (hg : R (2 * b) = false) : kp ≤ sm (fun k => lv2 R (2 * F k + 1) (2 * T k) (u k)) n + sm (fun v => lv2 R (2 * v) (2 * v + 1) (z v)) N := by
  have e := h (ic R)
  have i1 : ic R (2 * a + 1) = 1 := by simp [ic, hs]
  have i2 : ic R (2 * b) = 0 := by simp [ic, hg]
  rw [i1, i2] at e
  have k1 := sm_le (f := fun k => x k * (ic R (2 * F k + 1) - ic R (2 * T k))) (g := fun k => lv2 R (2 * F k + 1) (2 * T k) (u k)) n (fun k k0 k1 => lv2_le (hx k k0 k1).1 (hx k k0 k1).2)
  have k2 := sm_le (f := fun v => y v * (ic R (2 * v) - ic R (2 * v + 1))) (g := fun v => lv2 R (2 * v) (2 * v + 1) (z v)) N (fun k k0 k1 => lv2_le (hy k k0 k1).1 (hy k k0 k1).2)
  omega
theorem gf_cutE {n N : Nat} {F T x y u z : Int → Int} {a b kp : Int} {R : Int → Bool} (h : GF n N F T x y a b kp) (hs : R (2 * a + 1) = true) (hg : R (2 * b) = false)
    (hx : ∀ k : Int, 0 ≤ k → k < n → (R (2 * F k + 1) = true → R (2 * T k) = false → x k = u k) ∧ (R (2 * F k + 1) = false → R (2 * T k) = true → x k = 0))
    (hy : ∀ v : Int, 0 ≤ v → v < N → (R (2 * v) = true → R (2 * v + 1) = false → y v = z v) ∧ (R (2 * v) = false → R (2 * v + 1) = true → y v = 0)) :
    kp = sm (fun k => lv2 R (2 * F k + 1) (2 * T k) (u k)) n + sm (fun v => lv2 R (2 * v) (2 * v + 1) (z v)) N := by
  have e := h (ic R)
  have i1 : ic R (2 * a + 1) = 1 := by simp [ic, hs]
  have i2 : ic R (2 * b) = 0 := by simp [ic, hg]
  rw [i1, i2] at e
  have k1 := sm_congr (f := fun k => x k * (ic R (2 * F k + 1) - ic R (2 * T k))) (g := fun k => lv2 R (2 * F k + 1) (2 * T k) (u k)) n (fun k k0 k1 => lv2_eq (hx k k0 k1).1 (hx k k0 k1).2)
  have k2 := sm_congr (f := fun v => y v * (ic R (2 * v) - ic R (2 * v + 1))) (g := fun v => lv2 R (2 * v) (2 * v + 1) (z v)) N (fun k k0 k1 => lv2_eq (hy k k0 k1).1 (hy k k0 k1).2)
  omega
/-! out of a flow that isn't nothing: a path along it -/
/-- a way along the flow from w to v -/
def wa (n : Nat) (F T x y : Int → Int) (v : Int) : Int → List Int → Prop
  | w, [] => w = v
  | w, k :: P => 0 ≤ k ∧ k < n ∧ F k = w ∧ 0 < x k ∧ (P = [] ∨ 0 < y (T k)) ∧ wa n F T x y v (T k) P
theorem wa_snoc {n : Nat} {F T x y : Int → Int} {v k : Int} (k0 : 0 ≤ k) (k1 : k < n) (hF : F k = v) (hx : 0 < x k) (hy : 0 < y v) : ∀ (P : List Int) (w : Int), wa n F T x y v w P → P ≠ [] → wa n F T x y (T k) w (P ++ [k]) := by
  intro P
  induction P with
  | nil => intro w _ h; exact absurd rfl h
  | cons j P ih =>
    intro w hw _
    obtain ⟨a0, a1, a2, a3, a4, a5⟩ := hw
    refine ⟨a0, a1, a2, a3, Or.inr ?_, ?_⟩
    · rcases a4 with rfl | a4
      · have : T j = v := a5
        rw [this]; exact hy
      · exact a4
    · by_cases e : P = []
      · subst e
        have : T j = v := a5
        exact ⟨k0, k1, hF.trans this.symm, hx, Or.inl rfl, rfl⟩
      · exact ih (T j) a5 e
/-- the nodes of a way -/
def nl (T : Int → Int) (w : Int) : List Int → List Int
  | [] => [w]
  | k :: P => w :: nl T (T k) P
theorem wa_from {n : Nat} {F T x y : Int → Int} {v : Int} : ∀ (P : List Int) (w c : Int), wa n F T x y v w P → c ∈ nl T w P → ∃ P2, wa n F T x y v c P2 ∧ P2.length ≤ P.length := by
  intro P
  induction P with
  | nil =>
    intro w c hw hc
    have : c = w := by simpa [nl] using hc
    subst this
    exact ⟨[], hw, Nat.le_refl _⟩
  | cons j P ih =>
    intro w c hw hc
    rcases List.mem_cons.mp hc with rfl | hc
    · exact ⟨j :: P, hw, Nat.le_refl _⟩
    · obtain ⟨P2, h1, h2⟩ := ih (T j) c hw.2.2.2.2.2 hc
      exact ⟨P2, h1, by simp only [List.length_cons]; omega⟩
/-- a shortest way has no node twice -/
theorem wa_nodup {n : Nat} {F T x y : Int → Int} {v : Int} : ∀ (P : List Int) (w : Int), wa n F T x y v w P → (∀ P2, wa n F T x y v w P2 → P.length ≤ P2.length) → (nl T w P).Nodup := by
  intro P
  induction P with
  | nil => intro w _ _; simp [nl]
  | cons j P ih =>
    intro w hw hmin
    obtain ⟨a0, a1, a2, a3, a4, a5⟩ := hw
    refine List.nodup_cons.mpr ⟨fun hc => ?_, ih (T j) a5 (fun P2 h2 => ?_)⟩
    · obtain ⟨P2, h1, h2⟩ := wa_from P (T j) w a5 hc
      have := hmin P2 h1
      simp only [List.length_cons] at this
      omega
    · by_cases e : P2 = []
      · subst e
        have hv : T j = v := h2
        have := hmin [j] ⟨a0, a1, a2, a3, Or.inl rfl, hv⟩
        simp only [List.length_cons, List.length_nil] at this ⊢
        omega
      · by_cases hP : P = []
        · subst hP; simp
        · have := hmin (j :: P2) ⟨a0, a1, a2, a3, Or.inr (a4.resolve_left hP), h2⟩
          simp only [List.length_cons] at this
          omega
theorem nl_last {n : Nat} {F T x y : Int → Int} {v : Int} : ∀ (P : List Int) (w : Int), wa n F T x y v w P → v ∈ nl T w P := by
  intro P
  induction P with
  | nil => intro w h; have : w = v := h; subst this; simp [nl]
  | cons j P ih => intro w h; exact List.mem_cons_of_mem _ (ih _ h.2.2.2.2.2)
theorem nl_head {T : Int → Int} (w : Int) (P : List Int) : w ∈ nl T w P := by cases P <;> simp [nl]
/-- a way without a node twice is a path -/
theorem wa_vq {n : Nat} {F T Sh x y : Int → Int} {v : Int} (hS : ∀ k : Int, 0 ≤ k → k < n → 0 < x k → Sh k = 0) : ∀ (P : List Int) (w : Int) (seen : List Int), wa n F T x y v w P → (nl T w P).Nodup → (∀ c, c ∈ nl T w P → c ∉ seen) → vq n F T Sh v w seen P := by
  intro P
  induction P with
  | nil => intro w seen h _ _; exact h
  | cons j P ih =>
    intro w seen h hn hd
    obtain ⟨a0, a1, a2, a3, a4, a5⟩ := h
    obtain ⟨n1, n2⟩ := List.nodup_cons.mp hn
    refine ⟨fun c => n1 (by rw [c]; exact nl_last P _ a5), a0, a1, a2, hS j a0 a1 a3, fun hc => ?_, ih (T j) (w :: seen) a5 n2 (fun c hc hm => ?_)⟩
    · rcases List.mem_cons.mp hc with hc | hc
      · exact n1 (by rw [← hc]; exact nl_head _ _)
      · exact hd (T j) (List.mem_cons_of_mem _ (nl_head _ _)) hc
    · rcases List.mem_cons.mp hm with hm | hm
      · exact n1 (hm ▸ hc)
      · exact hd c (List.mem_cons_of_mem _ hc) hm
theorem wa_pos {n : Nat} {F T x y : Int → Int} {v : Int} : ∀ (P : List Int) (w : Int), wa n F T x y v w P → ∀ k, k ∈ P → 0 < x k := by
  intro P
  induction P with
  | nil => intro w _ k hk; cases hk
  | cons j P ih =>
    intro w h k hk
    obtain ⟨a0, a1, a2, a3, a4, a5⟩ := h
    rcases List.mem_cons.mp hk with rfl | hk
    · exact a3
    · exact ih _ a5 k hk
/-- the nodes that a path goes through: not the first one, not the last one -/
def inn (T : Int → Int) : List Int → List Int
  | [] => []
  | k :: P => if P = [] then [] else T k :: inn T P
theorem wa_inn {n : Nat} {F T x y : Int → Int} {v : Int} : ∀ (P : List Int) (w : Int), wa n F T x y v w P → ∀ c, c ∈ inn T P → 0 < y c := by
  intro P
  induction P with
  | nil => intro w _ c hc; cases hc
  | cons j P ih =>
    intro w h c hc
    obtain ⟨a0, a1, a2, a3, a4, a5⟩ := h
    unfold inn at hc
    split at hc
    · cases hc
    · next hP =>
      rcases List.mem_cons.mp hc with rfl | hc
      · exact a4.resolve_left hP
      · exact ih _ a5 c hc
theorem gf_path {n N : Nat} {F T Sh x y : Int → Int} {a b kp : Int} (h : GF n N F T x y a b kp) (hk : 0 < kp) (hab : a ≠ b) (hx : ∀ k : Int, 0 ≤ k → k < n → 0 ≤ x k) (hy : ∀ v : Int, 0 ≤ v → v < N → 0 ≤ y v) (hS : ∀ k : Int, 0 ≤ k → k < n → 0 < x k → Sh k = 0) (hya : y a = 0) :
    ∃ P, vq n F T Sh b a [] P ∧ (∀ k, k ∈ P → 0 < x k) ∧ (∀ c, c ∈ inn T P → 0 < y c) := by
  -- R: what can be come to
  let re : Int → Prop := fun q => ∃ v P, wa n F T x y v a P ∧ ((q = 2 * v ∧ P ≠ []) ∨ (q = 2 * v + 1 ∧ (P = [] ∨ 0 < y v)))
  let R : Int → Bool := fun q => @decide (re q) (Classical.propDecidable _)
  have hR : ∀ q, R q = true ↔ re q := fun q => @decide_eq_true_iff (re q) (Classical.propDecidable _)
  have hRf : ∀ q, R q = false ↔ ¬ re q := fun q => @decide_eq_false_iff_not (re q) (Classical.propDecidable _)
  have key : ∃ P, wa n F T x y b a P := by
    refine Classical.byContradiction (fun hno => ?_)
    have hs : R (2 * a + 1) = true := (hR _).mpr ⟨a, [], rfl, Or.inr ⟨rfl, Or.inl rfl⟩⟩
    have hg : R (2 * b) = false := by
      refine (hRf _).mpr ?_
      rintro ⟨v, P, hw, ⟨e, -⟩ | ⟨e, -⟩⟩
      · have : v = b := by omega
        subst this
        exact hno ⟨P, hw⟩
      · omega
    have e := h (ic R)
    have i1 : ic R (2 * a + 1) = 1 := by simp [ic, hs]
    have i2 : ic R (2 * b) = 0 := by simp [ic, hg]
    rw [i1, i2] at e
    have k1 := sm_le (f := fun k => x k * (ic R (2 * F k + 1) - ic R (2 * T k))) (g := fun _ => 0) n (fun k k0 k1 => by
      show x k * (ic R (2 * F k + 1) - ic R (2 * T k)) ≤ 0
      by_cases hx0 : x k = 0
      · rw [hx0]; simp
      · have hxp : 0 < x k := by have := hx k k0 k1; omega
        have : ic R (2 * F k + 1) ≤ ic R (2 * T k) := by
          unfold ic
          by_cases c : R (2 * F k + 1) = true
          · have : R (2 * T k) = true := by
              obtain ⟨v, P, hw, ⟨e, hP⟩ | ⟨e, hP⟩⟩ := (hR _).mp c
              · omega
              · have hv : F k = v := by omega
                refine (hR _).mpr ⟨T k, P ++ [k], ?_, Or.inl ⟨rfl, by simp⟩⟩
                by_cases hP0 : P = []
                · subst hP0
                  have : a = v := hw
                  exact ⟨k0, k1, hv.trans this.symm, hxp, Or.inl rfl, rfl⟩
                · exact wa_snoc k0 k1 hv hxp (hP.resolve_left hP0) P a hw hP0
            rw [if_pos c, if_pos this]; exact Int.le_refl _
          · rw [if_neg c]; split <;> omega
        exact Int.mul_nonpos_of_nonneg_of_nonpos (by omega) (by omega))
    have k2 := sm_le (f := fun v => y v * (ic R (2 * v) - ic R (2 * v + 1))) (g := fun _ => 0) N (fun v v0 v1 => by
      show y v * (ic R (2 * v) - ic R (2 * v + 1)) ≤ 0
      by_cases hy0 : y v = 0
      · rw [hy0]; simp
      · have hyp : 0 < y v := by have := hy v v0 v1; omega
        have : ic R (2 * v) ≤ ic R (2 * v + 1) := by
          unfold ic
          by_cases c : R (2 * v) = true
          · have : R (2 * v + 1) = true := by
              obtain ⟨v', P, hw, ⟨e, hP⟩ | ⟨e, hP⟩⟩ := (hR _).mp c
              · have hv : v' = v := by omega
                subst hv
                exact (hR _).mpr ⟨v', P, hw, Or.inr ⟨rfl, Or.inr hyp⟩⟩
              · omega
            rw [if_pos c, if_pos this]; exact Int.le_refl _
          · rw [if_neg c]; split <;> omega
        exact Int.mul_nonpos_of_nonneg_of_nonpos (by omega) (by omega))
    rw [sm_zero] at k1 k2
    omega
  obtain ⟨m, ⟨P, hP, hm⟩, hmin⟩ := pk_least (fun m => ∃ P, wa n F T x y b a P ∧ P.length = m) (by obtain ⟨P, hP⟩ := key; exact ⟨_, P, hP, rfl⟩)
  have hn := wa_nodup P a hP (fun P2 h2 => by
    refine Classical.byContradiction (fun q => hmin P2.length (by omega) ⟨P2, h2, rfl⟩))
  exact ⟨P, wa_vq hS P a [] hP hn (fun c _ hc => by cases hc), wa_pos P a hP, wa_inn P a hP⟩
