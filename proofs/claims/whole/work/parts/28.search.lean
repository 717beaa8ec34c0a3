/-! the search for c paths that are apart, of least weight together: over a list by rising weight -/
def se (w : List Int → Int) (cf : List Int → List (List Int) → Bool) : List (List Int) → Nat → Int → List (List Int) → Int → Int
  | [], _, _, _, best => best
  | P :: L, c, s, u, best =>
    if best ≠ -1 ∧ best ≤ s + c * w P then best
    else if cf P u = true then se w cf L c s u best
    else if c = 1 then se w cf L c s u (s + w P)
    else se w cf L c s u (se w cf L (c - 1) (s + w P) (P :: u) best)
def okc (T : Int → Int) (by_ : Int) (u Q : List (List Int)) : Prop := (∀ P, P ∈ Q → ∀ R, R ∈ u → ap T by_ R P) ∧ Q.Pairwise (ap T by_)
theorem tt_ge {w : List Int → Int} {c : Int} : ∀ Q : List (List Int), (∀ P, P ∈ Q → c ≤ w P) → Q.length * c ≤ tt w Q
  | [], _ => by simp [tt]
  | P :: Q, h => by
    have h1 := tt_ge Q (fun R hR => h R (List.mem_cons_of_mem _ hR))
    have h2 := h P List.mem_cons_self
    simp only [tt, List.length_cons]
    rw [show ((Q.length + 1 : Nat) : Int) = (Q.length : Int) + 1 by omega, Int.add_mul, Int.one_mul]
    omega
theorem se_spec {T : Int → Int} {by_ : Int} {w : List Int → Int} (hw : ∀ P, 0 ≤ w P) {cf : List Int → List (List Int) → Bool} (hc : ∀ P u, cf P u = false ↔ ∀ R, R ∈ u → ap T by_ R P) : ∀ (L : List (List Int)), L.Pairwise (fun P Q => w P ≤ w Q) → ∀ (c : Nat) (s : Int) (u : List (List Int)) (best : Int), 1 ≤ c → 0 ≤ s → -1 ≤ best →
    -1 ≤ se w cf L c s u best ∧ (best ≠ -1 → se w cf L c s u best ≠ -1 ∧ se w cf L c s u best ≤ best) ∧ (se w cf L c s u best = best ∨ ∃ Q, Q.Sublist L ∧ Q.length = c ∧ okc T by_ u Q ∧ se w cf L c s u best = s + tt w Q) ∧
    (∀ Q, Q.Sublist L → Q.length = c → okc T by_ u Q → se w cf L c s u best ≠ -1 ∧ se w cf L c s u best ≤ s + tt w Q) := by
  intro L
  induction L with
  | nil =>
    intro _ c s u best h1 _ h3
    refine ⟨h3, fun h => ⟨h, Int.le_refl _⟩, Or.inl rfl, fun Q hQ hl _ => ?_⟩
    have : Q = [] := List.sublist_nil.mp hQ
    subst this
    simp at hl
    omega
  | cons P L ih =>
    intro hs c s u best h1 h2 h3
    obtain ⟨s1, s2⟩ := List.pairwise_cons.mp hs
    have ih := ih s2
    have hwP := hw P
    by_cases ce : best ≠ -1 ∧ best ≤ s + c * w P
    · have e : se w cf (P :: L) c s u best = best := by simp only [se]; rw [if_pos ce]
      rw [e]
      refine ⟨h3, fun h => ⟨h, Int.le_refl _⟩, Or.inl rfl, fun Q hQ hl _ => ⟨ce.1, ?_⟩⟩
      have := tt_ge (w := w) (c := w P) Q (fun R hR => by
        rcases List.mem_cons.mp (hQ.subset hR) with rfl | h
        · exact Int.le_refl _
        · exact s1 R h)
      rw [hl] at this
      omega
    · by_cases cc : cf P u = true
      · have e : se w cf (P :: L) c s u best = se w cf L c s u best := by simp only [se]; rw [if_neg ce, if_pos cc]
        rw [e]
        obtain ⟨i0, i1, i2, i3⟩ := ih c s u best h1 h2 h3
        refine ⟨i0, i1, ?_, fun Q hQ hl ho => ?_⟩
        · rcases i2 with h | ⟨Q, q1, q2⟩
          · exact Or.inl h
          · exact Or.inr ⟨Q, q1.cons P, q2⟩
        · cases hQ with
          | cons _ hQ => exact i3 Q hQ hl ho
          | cons_cons _ hQ =>
            have := (hc P u).mpr (fun R hR => ho.1 P List.mem_cons_self R hR)
            rw [this] at cc
            cases cc
      · have cc' : cf P u = false := by cases h : cf P u with
          | true => exact absurd h cc
          | false => rfl
        have hPu := (hc P u).mp cc'
        have hlt : best ≠ -1 → s + c * w P < best := fun h => by
          refine Classical.byContradiction (fun q => ce ⟨h, by omega⟩)
        by_cases c1 : c = 1
        · subst c1
          have e : se w cf (P :: L) 1 s u best = se w cf L 1 s u (s + w P) := by simp only [se]; rw [if_neg ce, if_neg cc, if_pos trivial]
          rw [e]
          obtain ⟨i0, i1, i2, i3⟩ := ih 1 s u (s + w P) h1 h2 (by omega)
          have i1' := i1 (by omega)
          refine ⟨i0, fun h => ⟨i1'.1, ?_⟩, ?_, fun Q hQ hl ho => ?_⟩
          · have := hlt h
            simp only [Int.natCast_one, Int.one_mul] at this
            omega
          · right
            rcases i2 with h | ⟨Q, q1, q2, q3, q4⟩
            · refine ⟨[P], by simp, rfl, ⟨fun R hR => ?_, by simp⟩, by rw [h]; simp [tt]⟩
              have : R = P := by simpa using hR
              subst this
              exact hPu
            · exact ⟨Q, q1.cons P, q2, q3, q4⟩
          · cases hQ with
            | cons _ hQ => exact i3 Q hQ hl ho
            | cons_cons _ hQ =>
              rename_i Q'
              have : Q' = [] := by
                simp only [List.length_cons] at hl
                exact List.eq_nil_of_length_eq_zero (by omega)
              subst this
              simp only [tt]
              exact ⟨i1'.1, by omega⟩
        · have e : se w cf (P :: L) c s u best = se w cf L c s u (se w cf L (c - 1) (s + w P) (P :: u) best) := by simp only [se]; rw [if_neg ce, if_neg cc, if_neg c1]
          rw [e]
          obtain ⟨j0, j1, j2, j3⟩ := ih (c - 1) (s + w P) (P :: u) best (by omega) (by omega) h3
          generalize se w cf L (c - 1) (s + w P) (P :: u) best = r1 at *
          obtain ⟨i0, i1, i2, i3⟩ := ih c s u r1 h1 h2 j0
          refine ⟨i0, fun h => ?_, ?_, fun Q hQ hl ho => ?_⟩
          · obtain ⟨a1, a2⟩ := j1 h
            obtain ⟨b1, b2⟩ := i1 a1
            exact ⟨b1, by omega⟩
          · rcases i2 with h | ⟨Q, q1, q2⟩
            · rcases j2 with h' | ⟨Q, q1, q2, q3, q4⟩
              · left; omega
              · right
                refine ⟨P :: Q, q1.cons_cons P, by simp only [List.length_cons]; omega, ⟨fun R hR S hS => ?_, List.Pairwise.cons (fun R hR => q3.1 R hR P List.mem_cons_self) q3.2⟩, by rw [h]; simp only [tt]; omega⟩
                rcases List.mem_cons.mp hR with rfl | hR
                · exact hPu S hS
                · exact q3.1 R hR S (List.mem_cons_of_mem _ hS)
            · exact Or.inr ⟨Q, q1.cons P, q2⟩
          · cases hQ with
            | cons _ hQ => exact i3 Q hQ hl ho
            | cons_cons _ hQ =>
              rename_i Q'
              simp only [List.length_cons] at hl
              obtain ⟨o1, o2⟩ := List.pairwise_cons.mp ho.2
              obtain ⟨a1, a2⟩ := j3 Q' hQ (by omega) ⟨fun R hR S hS => by
                rcases List.mem_cons.mp hS with rfl | hS
                · exact o1 R hR
                · exact ho.1 R (List.mem_cons_of_mem _ hR) S hS, o2⟩
              obtain ⟨b1, b2⟩ := i1 a1
              simp only [tt]
              exact ⟨b1, by omega⟩
/-- paths of a list, in its order -/
theorem sub_perm {α : Type} [DecidableEq α] : ∀ (R Ps : List α), Ps.Nodup → (∀ P, P ∈ Ps → P ∈ R) → ∃ Q : List α, Q.Sublist R ∧ Q.Perm Ps := by
  intro R
  induction R with
  | nil =>
    intro Ps _ h
    refine ⟨[], List.Sublist.refl _, ?_⟩
    cases Ps with
    | nil => exact List.Perm.refl _
    | cons P Ps => exact absurd (h P List.mem_cons_self) (by simp)
  | cons r R ih =>
    intro Ps hn h
    by_cases c : r ∈ Ps
    · obtain ⟨Q, q1, q2⟩ := ih (Ps.erase r) (hn.erase r) (fun P hP => by
        have hne : P ≠ r := fun e => by subst e; exact (hn.not_mem_erase hP)
        rcases List.mem_cons.mp (h P (List.mem_of_mem_erase hP)) with e | e
        · exact absurd e hne
        · exact e)
      exact ⟨r :: Q, q1.cons_cons r, (q2.cons r).trans (List.perm_cons_erase c).symm⟩
    · obtain ⟨Q, q1, q2⟩ := ih Ps hn (fun P hP => by
        rcases List.mem_cons.mp (h P hP) with e | e
        · exact absurd (e ▸ hP) c
        · exact e)
      exact ⟨Q, q1.cons r, q2⟩
theorem tt_perm {w : List Int → Int} {A B : List (List Int)} (h : A.Perm B) : tt w A = tt w B := by
  induction h with
  | nil => rfl
  | cons x _ ih => simp only [tt]; omega
  | swap x y l => simp only [tt]; omega
  | trans _ _ i1 i2 => exact i1.trans i2
