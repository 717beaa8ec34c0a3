/-! the pairs that are best -/
/-- q betters p -/
def bt2 (q p : Int × Int) : Prop := (q.1 < p.1 ∨ q.2 < p.2) ∧ q.1 ≤ p.1 ∧ q.2 ≤ p.2
def bst (X : List (Int × Int)) (p : Int × Int) : Prop := p ∈ X ∧ ∀ q, q ∈ X → ¬ bt2 q p
/-- one more is offered: the last one first -/
def of1 : List (Int × Int) → Int × Int → List (Int × Int)
  | [], p => [p]
  | q :: B, p => if q.2 ≤ p.2 then q :: B else if q.1 = p.1 then p :: B else p :: q :: B
/-- falling first numbers -/
def fal (B : List (Int × Int)) : Prop := B.Pairwise (fun p q => q.1 < p.1)
def fnt (X B : List (Int × Int)) : Prop := fal B ∧ ∀ p, p ∈ B ↔ bst X p
theorem bst_low {X : List (Int × Int)} : ∀ (k : Nat) (p : Int × Int), p ∈ X → (∀ q, q ∈ X → 0 ≤ q.1 ∧ 0 ≤ q.2) → (p.1 + p.2).toNat ≤ k → ∃ q, bst X q ∧ q.1 ≤ p.1 ∧ q.2 ≤ p.2 := by
  intro k
  induction k with
  | zero =>
    intro p hp hX hk
    refine ⟨p, ⟨hp, fun q hq hb => ?_⟩, Int.le_refl _, Int.le_refl _⟩
    have := hX p hp; have := hX q hq
    obtain ⟨h1, h2, h3⟩ := hb
    omega
  | succ k ih =>
    intro p hp hX hk
    by_cases c : ∃ q, q ∈ X ∧ bt2 q p
    · obtain ⟨q, hq, h1, h2, h3⟩ := c
      have := hX p hp; have := hX q hq
      obtain ⟨r, r1, r2, r3⟩ := ih q hq hX (by omega)
      exact ⟨r, r1, by omega, by omega⟩
    · exact ⟨p, ⟨hp, fun q hq hb => c ⟨q, hq, hb⟩⟩, Int.le_refl _, Int.le_refl _⟩
theorem fnt_nil : fnt [] [] := ⟨List.Pairwise.nil, fun p => ⟨(fun h => by cases h), fun h => h.1⟩⟩
theorem fnt_step {X B : List (Int × Int)} {p : Int × Int} (h : fnt X B) (hX : ∀ q, q ∈ X → 0 ≤ q.1 ∧ 0 ≤ q.2) (hp : 0 ≤ p.1 ∧ 0 ≤ p.2) (hw : ∀ q, q ∈ X → q.1 ≤ p.1) : fnt (X ++ [p]) (of1 B p) := by
  obtain ⟨h1, h2⟩ := h
  have hm : ∀ q, q ∈ X ++ [p] ↔ q ∈ X ∨ q = p := fun q => by simp
  cases B with
  | nil =>
    have he : X = [] := by
      cases X with
      | nil => rfl
      | cons y X =>
        obtain ⟨q, hq, -⟩ := bst_low (y.1 + y.2).toNat y List.mem_cons_self hX (Nat.le_refl _)
        exact absurd ((h2 q).mpr hq) (by simp)
    subst he
    refine ⟨by simp [of1, fal], fun q => ?_⟩
    simp only [of1, List.mem_singleton, bst, List.nil_append]
    constructor
    · rintro rfl
      refine ⟨rfl, fun r hr hb => ?_⟩
      subst hr
      obtain ⟨z, -, -⟩ := hb
      omega
    · exact fun z => z.1
  | cons y B =>
    obtain ⟨f1, f2⟩ := List.pairwise_cons.mp h1
    have hy := (h2 y).mp List.mem_cons_self
    have hyX := hX y hy.1
    have hyw := hw y hy.1
    -- y has the least second number
    have hmin : ∀ q, q ∈ X → y.2 ≤ q.2 := by
      intro q hq
      obtain ⟨r, r1, r2, r3⟩ := bst_low (q.1 + q.2).toNat q hq hX (Nat.le_refl _)
      rcases List.mem_cons.mp ((h2 r).mpr r1) with e | e
      · subst e; exact r3
      · have := f1 r e
        refine Classical.byContradiction (fun z => ?_)
        exact hy.2 r r1.1 ⟨Or.inl this, by omega, by
          refine Classical.byContradiction (fun z2 => ?_)
          exact r1.2 y hy.1 ⟨Or.inr (by omega), by omega, by omega⟩⟩
    show fnt (X ++ [p]) (if y.2 ≤ p.2 then y :: B else if y.1 = p.1 then p :: B else p :: y :: B)
    by_cases c1 : y.2 ≤ p.2
    · rw [if_pos c1]
      refine ⟨h1, fun q => ?_⟩
      rw [h2 q]
      constructor
      · rintro ⟨q1, q2⟩
        refine ⟨(hm q).mpr (Or.inl q1), fun r hr hb => ?_⟩
        rcases (hm r).mp hr with hr | rfl
        · exact q2 r hr hb
        · obtain ⟨b1, b2, b3⟩ := hb
          have := hw q q1
          exact q2 y hy.1 ⟨Or.inr (by omega), by omega, by omega⟩
      · rintro ⟨q1, q2⟩
        have q3 : ∀ r, r ∈ X → ¬ bt2 r q := fun r hr => q2 r ((hm r).mpr (Or.inl hr))
        rcases (hm q).mp q1 with q1 | rfl
        · exact ⟨q1, q3⟩
        · refine ⟨?_, q3⟩
          have : y = q := by
            have hn := q3 y hy.1
            refine Prod.ext ?_ ?_
            · refine Classical.byContradiction (fun z => hn ⟨Or.inl (by omega), hyw, c1⟩)
            · refine Classical.byContradiction (fun z => hn ⟨Or.inr (by omega), hyw, c1⟩)
          rw [← this]; exact hy.1
    · rw [if_neg c1]
      have hnew : bst (X ++ [p]) p := ⟨(hm p).mpr (Or.inr rfl), fun r hr hb => by
        obtain ⟨b1, b2, b3⟩ := hb
        rcases (hm r).mp hr with hr | rfl
        · have := hmin r hr; omega
        · omega⟩
      have hold : ∀ q, q ∈ X → q.1 < p.1 → (bst (X ++ [p]) q ↔ bst X q) := by
        intro q hq hlt
        constructor
        · rintro ⟨-, q2⟩
          exact ⟨hq, fun r hr => q2 r ((hm r).mpr (Or.inl hr))⟩
        · rintro ⟨-, q2⟩
          refine ⟨(hm q).mpr (Or.inl hq), fun r hr hb => ?_⟩
          rcases (hm r).mp hr with hr | rfl
          · exact q2 r hr hb
          · obtain ⟨b1, b2, b3⟩ := hb; omega
      have hsame : ∀ q, q ∈ X → q.1 = p.1 → ¬ bst (X ++ [p]) q := by
        intro q hq he hb
        have := hmin q hq
        exact hb.2 p ((hm p).mpr (Or.inr rfl)) ⟨Or.inr (by omega), by omega, by omega⟩
      by_cases c2 : y.1 = p.1
      · rw [if_pos c2]
        refine ⟨List.Pairwise.cons (fun q hq => by have := f1 q hq; omega) f2, fun q => ?_⟩
        constructor
        · intro hq
          rcases List.mem_cons.mp hq with rfl | hq
          · exact hnew
          · have hqX := (h2 q).mp (List.mem_cons_of_mem _ hq)
            exact (hold q hqX.1 (by have := f1 q hq; omega)).mpr hqX
        · intro hq
          rcases (hm q).mp hq.1 with hqX | rfl
          · have hle := hw q hqX
            by_cases e : q.1 = p.1
            · exact absurd hq (hsame q hqX e)
            · have := (h2 q).mpr ((hold q hqX (by omega)).mp hq)
              rcases List.mem_cons.mp this with rfl | this
              · exact absurd c2 e
              · exact List.mem_cons_of_mem _ this
          · exact List.mem_cons_self
      · rw [if_neg c2]
        refine ⟨List.Pairwise.cons (fun q hq => ?_) h1, fun q => ?_⟩
        · rcases List.mem_cons.mp hq with rfl | hq
          · omega
          · have := f1 q hq; omega
        · constructor
          · intro hq
            rcases List.mem_cons.mp hq with rfl | hq
            · exact hnew
            · have hqX := (h2 q).mp hq
              refine (hold q hqX.1 ?_).mpr hqX
              rcases List.mem_cons.mp hq with rfl | hq
              · omega
              · have := f1 q hq; omega
          · intro hq
            rcases (hm q).mp hq.1 with hqX | rfl
            · have hle := hw q hqX
              by_cases e : q.1 = p.1
              · exact absurd hq (hsame q hqX e)
              · exact List.mem_cons_of_mem _ ((h2 q).mpr ((hold q hqX (by omega)).mp hq))
            · exact List.mem_cons_self
theorem fal_nodup {B : List (Int × Int)} (h : fal B) : B.Nodup := h.imp (fun {p q} hlt e => by subst e; omega)
theorem fnt_uniq {X B B' : List (Int × Int)} (h : fnt X B) (h' : fnt X B') : B = B' := by
  refine List.Perm.eq_of_pairwise (le := fun (p q : Int × Int) => q.1 < p.1) (fun p q _ _ l1 l2 => by omega) h.1 h'.1 ?_
  exact (List.perm_ext_iff_of_nodup (fal_nodup h.1) (fal_nodup h'.1)).mpr (fun p => by rw [h.2, h'.2])
