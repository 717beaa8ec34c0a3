/-! the system beside the reference -/
def REL (S Y : Nat → Int → Int) : Prop := (∀ k, k < 7 → Y k = S k) ∧ GIs S ∧ BZ S ∧ ((S 31 0 = 0 ∧ Y 14 0 = 0) ∨ ∃ P, P ≠ [] ∧ ok5 P ∧ TL S P (S 32 0) (S 33 0) ∧ TLY Y P (S 32 0) (S 33 0)) ∧ ∃ B, B.length ≤ 1458 ∧ PB S B ∧ PBY Y B
theorem REL.gj {S Y : Nat → Int → Int} (h : REL S Y) : GJ Y := GJ_eq h.1 ⟨h.2.1.1, h.2.1.2.1, h.2.1.2.2.1⟩
theorem REL.sp {S Y : Nat → Int → Int} {u v : Int} (h : REL S Y) : spS Y u v = spS S u v := by
  unfold spS
  rw [h.1 1 (by omega), h.1 2 (by omega), h.1 3 (by omega), h.1 4 (by omega), h.1 6 (by omega)]
theorem TL_eq {S S' : Nat → Int → Int} {P : List Int} {w s2 : Int} (h : ∀ k, 30 ≤ k ∧ k ≤ 33 → S' k = S k) (g : TL S P w s2) : TL S' P w s2 := by
  unfold TL at *
  rw [h 30 (by omega), h 31 (by omega), h 32 (by omega), h 33 (by omega)]
  exact g
theorem TLY_eq {S S' : Nat → Int → Int} {P : List Int} {w s2 : Int} (h : ∀ k, 14 ≤ k ∧ k ≤ 18 → S' k = S k) (g : TLY S P w s2) : TLY S' P w s2 := by
  unfold TLY at *
  rw [h 14 (by omega), h 15 (by omega), h 16 (by omega), h 17 (by omega), h 18 (by omega)]
  exact g
theorem PB_eq {S S' : Nat → Int → Int} {B : List (Int × Int)} (h : ∀ k, 34 ≤ k ∧ k ≤ 36 → S' k = S k) (g : PB S B) : PB S' B := by
  unfold PB at *
  rw [h 34 (by omega), h 35 (by omega), h 36 (by omega)]
  exact g
theorem PBY_eq {S S' : Nat → Int → Int} {B : List (Int × Int)} (h : ∀ k, 19 ≤ k ∧ k ≤ 21 → S' k = S k) (g : PBY S B) : PBY S' B := by
  unfold PBY at *
  rw [h 19 (by omega), h 20 (by omega), h 21 (by omega)]
  exact g
theorem BZ_eq {S S' : Nat → Int → Int} (h : S' 18 = S 18) (g : BZ S) : BZ S' := by
  unfold BZ at *
  rw [h]
  exact g
theorem told_eq {S S' Y Y' : Nat → Int → Int} (hS : ∀ k, 30 ≤ k ∧ k ≤ 33 → S' k = S k) (hY : ∀ k, 14 ≤ k ∧ k ≤ 18 → Y' k = Y k) (g : (S 31 0 = 0 ∧ Y 14 0 = 0) ∨ ∃ P, P ≠ [] ∧ ok5 P ∧ TL S P (S 32 0) (S 33 0) ∧ TLY Y P (S 32 0) (S 33 0)) : (S' 31 0 = 0 ∧ Y' 14 0 = 0) ∨ ∃ P, P ≠ [] ∧ ok5 P ∧ TL S' P (S' 32 0) (S' 33 0) ∧ TLY Y' P (S' 32 0) (S' 33 0) := by
  rcases g with g | ⟨P, p1, p2, p3, p4⟩
  · exact Or.inl ⟨by rw [hS 31 (by omega)]; exact g.1, by rw [hY 14 (by omega)]; exact g.2⟩
  · refine Or.inr ⟨P, p1, p2, ?_, ?_⟩
    · rw [hS 32 (by omega), hS 33 (by omega)]; exact TL_eq hS p3
    · rw [hS 32 (by omega), hS 33 (by omega)]; exact TLY_eq hY p4
/-- neither graph nor what was told -/
theorem REL_eq {S S' Y Y' : Nat → Int → Int} (h : REL S Y) (hS : ∀ k, k < 16 ∨ 30 ≤ k → S' k = S k) (hZ : BZ S') (hY : ∀ k, k < 7 ∨ (14 ≤ k ∧ k ≤ 21) → Y' k = Y k) : REL S' Y' := by
  obtain ⟨h1, h2, h3, h4, B, b1, b2, b3⟩ := h
  exact ⟨fun k hk => by rw [hY k (Or.inl hk), hS k (by omega)]; exact h1 k hk, GIs_eq (fun k hk => hS k (Or.inl hk)) h2, hZ, told_eq (fun k hk => hS k (by omega)) (fun k hk => hY k (by omega)) h4, B, b1, PB_eq (fun k hk => hS k (by omega)) b2, PBY_eq (fun k hk => hY k (by omega)) b3⟩
/-- another path is told -/
theorem REL_told {S S' Y Y' : Nat → Int → Int} {P : List Int} {w s2 : Int} (h : REL S Y) (hS : ∀ k, k < 16 ∨ 34 ≤ k → S' k = S k) (hZ : BZ S') (hY : ∀ k, k < 7 ∨ (19 ≤ k ∧ k ≤ 21) → Y' k = Y k) (p1 : P ≠ []) (p2 : ok5 P) (p3 : TL S' P w s2) (p4 : TLY Y' P w s2) : REL S' Y' := by
  obtain ⟨h1, h2, h3, h4, B, b1, b2, b3⟩ := h
  have e1 : S' 32 0 = w := p3.2.1
  have e2 : S' 33 0 = s2 := p3.2.2.1
  exact ⟨fun k hk => by rw [hY k (Or.inl hk), hS k (by omega)]; exact h1 k hk, GIs_eq (fun k hk => hS k (Or.inl hk)) h2, hZ, Or.inr ⟨P, p1, p2, by rw [e1, e2]; exact p3, by rw [e1, e2]; exact p4⟩, B, b1, PB_eq (fun k hk => hS k (by omega)) b2, PBY_eq (fun k hk => hY k (by omega)) b3⟩
/-- other pairs -/
theorem REL_pairs {S S' Y Y' : Nat → Int → Int} {B : List (Int × Int)} (h : REL S Y) (hS : ∀ k, k < 16 ∨ (30 ≤ k ∧ k ≤ 33) → S' k = S k) (hZ : BZ S') (hY : ∀ k, k < 7 ∨ (14 ≤ k ∧ k ≤ 18) → Y' k = Y k) (b1 : B.length ≤ 1458) (b2 : PB S' B) (b3 : PBY Y' B) : REL S' Y' := by
  obtain ⟨h1, h2, h3, h4, -⟩ := h
  exact ⟨fun k hk => by rw [hY k (Or.inl hk), hS k (by omega)]; exact h1 k hk, GIs_eq (fun k hk => hS k (Or.inl hk)) h2, hZ, told_eq (fun k hk => hS k (by omega)) (fun k hk => hY k (by omega)) h4, B, b1, b2, b3⟩
/-- another graph -/
theorem REL_graph {S S' Y Y' : Nat → Int → Int} (h : REL S Y) (hG : GIs S') (hE : ∀ k, k < 7 → Y' k = S' k) (hS : ∀ k, 16 ≤ k → S' k = S k) (hY : ∀ k, 7 ≤ k → Y' k = Y k) : REL S' Y' := by
  obtain ⟨h1, h2, h3, h4, B, b1, b2, b3⟩ := h
  exact ⟨hE, hG, BZ_eq (hS 18 (by omega)) h3, told_eq (fun k hk => hS k (by omega)) (fun k hk => hY k (by omega)) h4, B, b1, PB_eq (fun k hk => hS k (by omega)) b2, PBY_eq (fun k hk => hY k (by omega)) b3⟩
theorem REL_0 : REL Z0 Z0 := by
  refine ⟨fun _ _ => rfl, ⟨?_, ?_, ?_, ?_⟩, fun _ _ _ => rfl, Or.inl ⟨rfl, rfl⟩, [], by simp, ⟨rfl, fun i hi => by simp at hi⟩, ⟨rfl, fun i hi => by simp at hi⟩⟩
  · show (0 : Int) ≤ 0 ∧ (0 : Int) ≤ 8; omega
  · show (0 : Int) ≤ 0 ∧ (0 : Int) ≤ 20; omega
  · refine ⟨by show (0 : Int).toNat ≤ 20; omega, by show (0 : Int).toNat ≤ 8; omega, fun k => ?_, fun k k0 k1 => ?_⟩
    · show (0 : Int) ≤ 0 ∧ (0 : Int) < 8 ∧ (0 : Int) ≤ 0 ∧ (0 : Int) < 8 ∧ (0 : Int) ≤ 0 ∧ (0 : Int) ≤ 1000 ∧ (0 : Int) ≤ 0 ∧ (0 : Int) ≤ 1000 ∧ ((0 : Int) = 0 ∨ (0 : Int) = 1)
      omega
    · have : k < ((0 : Int).toNat : Int) := k1
      omega
  · intro v _ _
    exact ⟨rfl, fun i hi => absurd hi (by show ¬ i < 0; omega)⟩
/-! the graph changes -/
theorem e_clear {S Y S' Y' : Nat → Int → Int} {r1 r2 : Int} (h : REL S Y) (h1 : r1 = S 1 0 ∧ S' = us (us (fl (us (us S 0 0 0) 1 0 0) 7 8 0) 31 0 0) 36 0 0) (h2 : r2 = Y 1 0 ∧ Y' = us (us (us (us Y 0 0 0) 1 0 0) 14 0 0) 19 0 0) : r1 = r2 ∧ REL S' Y' := by
  obtain ⟨e1, rfl⟩ := h1
  obtain ⟨e2, rfl⟩ := h2
  obtain ⟨a1, a2, a3, a4, B, b1, b2, b3⟩ := h
  have s0 : ∀ k, k ≠ 0 → k ≠ 1 → k ≠ 7 → k ≠ 31 → k ≠ 36 → us (us (fl (us (us S 0 0 0) 1 0 0) 7 8 0) 31 0 0) 36 0 0 k = S k := fun k k0 k1 k7 k31 k36 => by
    rw [us_n k36, us_n k31]
    unfold fl
    rw [if_neg k7, us_n k1, us_n k0]
  have t0 : us (us (fl (us (us S 0 0 0) 1 0 0) 7 8 0) 31 0 0) 36 0 0 0 = up_ (S 0) 0 0 := by
    rw [us_n (by decide), us_n (by decide)]; unfold fl; rw [if_neg (by decide), us_n (by decide), us_s]
  have t1 : us (us (fl (us (us S 0 0 0) 1 0 0) 7 8 0) 31 0 0) 36 0 0 1 = up_ (S 1) 0 0 := by
    rw [us_n (by decide), us_n (by decide)]; unfold fl; rw [if_neg (by decide), us_s, us_n (by decide)]
  have t7 : ∀ v : Int, 0 ≤ v → v < 8 → us (us (fl (us (us S 0 0 0) 1 0 0) 7 8 0) 31 0 0) 36 0 0 7 v = 0 := fun v v0 v1 => by
    rw [us_n (by decide), us_n (by decide)]; unfold fl; rw [if_pos rfl, if_pos ⟨v0, v1⟩]
  refine ⟨by rw [e1, e2, a1 1 (by omega)], fun k hk => ?_, ⟨?_, ?_, ?_, ?_⟩, ?_, Or.inl ⟨?_, ?_⟩, [], by simp, ⟨?_, fun i hi => by simp at hi⟩, ⟨?_, fun i hi => by simp at hi⟩⟩
  · rw [us_n (by omega), us_n (by omega)]
    by_cases c0 : k = 0
    · subst c0; rw [t0, us_n (by decide), us_s, a1 0 (by omega)]
    · by_cases c1 : k = 1
      · subst c1; rw [t1, us_s, us_n (by decide), a1 1 (by omega)]
      · rw [us_n c1, us_n c0, s0 k c0 c1 (by omega) (by omega) (by omega)]; exact a1 k hk
  · rw [t0, up_s]; omega
  · rw [t1, up_s]; omega
  · rw [t1, up_s, t0, up_s, s0 2 (by decide) (by decide) (by decide) (by decide) (by decide), s0 3 (by decide) (by decide) (by decide) (by decide) (by decide), s0 4 (by decide) (by decide) (by decide) (by decide) (by decide), s0 5 (by decide) (by decide) (by decide) (by decide) (by decide), s0 6 (by decide) (by decide) (by decide) (by decide) (by decide)]
    exact ⟨by decide, by decide, a2.2.2.1.2.2.1, fun k k0 k1 => absurd k1 (by simp; omega)⟩
  · intro v v0 v1
    rw [t1, up_s, t7 v v0 v1]
    exact ⟨rfl, fun i hi => absurd hi (by show ¬ i < 0; omega)⟩
  · exact BZ_eq (s0 18 (by decide) (by decide) (by decide) (by decide) (by decide)) a3
  · rw [us_n (by decide), us_s, up_s]
  · rw [us_n (by decide), us_s, up_s]
  · rw [us_s, up_s]; rfl
  · rw [us_s, up_s]; rfl
theorem e_node {S Y S' Y' : Nat → Int → Int} {r1 r2 : Int} (h : REL S Y) (h1 : (S 0 0 = 8 ∧ r1 = -3 ∧ S' = S) ∨ (S 0 0 < 8 ∧ r1 = S 0 0 ∧ S' = us S 0 0 (S 0 0 + 1))) (h2 : (Y 0 0 = 8 ∧ r2 = -3 ∧ Y' = Y) ∨ (Y 0 0 < 8 ∧ r2 = Y 0 0 ∧ Y' = us Y 0 0 (Y 0 0 + 1))) : r1 = r2 ∧ REL S' Y' := by
  have e0 := h.1 0 (by omega)
  rw [e0] at h2
  rcases h1 with ⟨c1, q1, rfl⟩ | ⟨c1, q1, rfl⟩ <;> rcases h2 with ⟨c2, q2, rfl⟩ | ⟨c2, q2, rfl⟩
  · exact ⟨by omega, h⟩
  · omega
  · omega
  · refine ⟨by omega, REL_graph h ?_ (fun k hk => ?_) (fun k hk => us_n (by omega)) (fun k hk => us_n (by omega))⟩
    · obtain ⟨g1, g2, g3, g4⟩ := h.2.1
      refine ⟨by rw [us_s, up_s]; omega, by rw [us_n (by decide)]; exact g2, ?_, ?_⟩
      · rw [us_s, up_s, us_n (by decide), us_n (by decide), us_n (by decide), us_n (by decide), us_n (by decide), us_n (by decide)]
        exact ⟨g3.1, by omega, g3.2.2.1, fun k k0 k1 => by have := g3.2.2.2 k k0 k1; omega⟩
      · intro v v0 v1
        have := g4 v v0 v1
        rw [us_n (by decide), us_n (by decide), us_n (by decide), us_n (by omega)]
        exact this
    · by_cases c : k = 0
      · subst c; rw [us_s, us_s, e0]
      · rw [us_n c, us_n c]; exact h.1 k hk
theorem e_change {S Y S' Y' : Nat → Int → Int} {k w1 w2 r1 r2 : Int} (h : REL S Y) (h1 : (¬ ((0 ≤ k ∧ k < S 1 0) ∧ wtS w1 ∧ wtS w2) ∧ r1 = -2 ∧ S' = S) ∨ (((0 ≤ k ∧ k < S 1 0) ∧ wtS w1 ∧ wtS w2) ∧ r1 = S 4 k ∧ S' = us (us S 4 k w1) 5 k w2)) (h2 : (¬ ((0 ≤ k ∧ k < Y 1 0) ∧ wtS w1 ∧ wtS w2) ∧ r2 = -2 ∧ Y' = Y) ∨ (((0 ≤ k ∧ k < Y 1 0) ∧ wtS w1 ∧ wtS w2) ∧ r2 = Y 4 k ∧ Y' = us (us Y 4 k w1) 5 k w2)) : r1 = r2 ∧ REL S' Y' := by
  rw [h.1 1 (by omega), h.1 4 (by omega)] at h2
  rcases h1 with ⟨c1, q1, rfl⟩ | ⟨c1, q1, rfl⟩ <;> rcases h2 with ⟨c2, q2, rfl⟩ | ⟨c2, q2, rfl⟩
  · exact ⟨by omega, h⟩
  · exact absurd c2 c1
  · exact absurd c1 c2
  · refine ⟨by omega, REL_graph h ?_ (fun j hj => ?_) (fun k hk => by rw [us_n (by omega), us_n (by omega)]) (fun k hk => by rw [us_n (by omega), us_n (by omega)])⟩
    · obtain ⟨g1, g2, g3, g4⟩ := h.2.1
      refine ⟨by rw [us_n (by decide), us_n (by decide)]; exact g1, by rw [us_n (by decide), us_n (by decide)]; exact g2, ?_, ?_⟩
      · rw [us_n (show 1 ≠ 5 by decide), us_n (show 1 ≠ 4 by decide), us_n (show 0 ≠ 5 by decide), us_n (show 0 ≠ 4 by decide), us_n (show 2 ≠ 5 by decide), us_n (show 2 ≠ 4 by decide), us_n (show 3 ≠ 5 by decide), us_n (show 3 ≠ 4 by decide), us_n (show 4 ≠ 5 by decide), us_s, us_s, us_n (show 5 ≠ 4 by decide), us_n (show 6 ≠ 5 by decide), us_n (show 6 ≠ 4 by decide)]
        refine ⟨g3.1, g3.2.1, fun j => ?_, g3.2.2.2⟩
        have := g3.2.2.1 j
        by_cases e : j = k
        · subst e; rw [up_s, up_s]; omega
        · rw [up_n e, up_n e]; exact this
      · intro v v0 v1
        have := g4 v v0 v1
        rw [us_n (show 7 ≠ 5 by decide), us_n (show 7 ≠ 4 by decide), us_n (show 1 ≠ 5 by decide), us_n (show 1 ≠ 4 by decide), us_n (show 2 ≠ 5 by decide), us_n (show 2 ≠ 4 by decide), us_n (show 8 + v.toNat ≠ 5 by omega), us_n (show 8 + v.toNat ≠ 4 by omega)]
        exact this
    · by_cases c5 : j = 5
      · subst c5; rw [us_s, us_s, us_n (by decide), us_n (by decide), h.1 5 (by omega)]
      · rw [us_n c5, us_n c5]
        by_cases c4 : j = 4
        · subst c4; rw [us_s, us_s, h.1 4 (by omega)]
        · rw [us_n c4, us_n c4]; exact h.1 j hj
theorem e_shut {S Y S' Y' : Nat → Int → Int} {k v r1 r2 : Int} (h : REL S Y) (hv : v = 0 ∨ v = 1) (h1 : (¬ (0 ≤ k ∧ k < S 1 0) ∧ r1 = -2 ∧ S' = S) ∨ ((0 ≤ k ∧ k < S 1 0) ∧ r1 = S 6 k ∧ S' = us S 6 k v)) (h2 : (¬ (0 ≤ k ∧ k < Y 1 0) ∧ r2 = -2 ∧ Y' = Y) ∨ ((0 ≤ k ∧ k < Y 1 0) ∧ r2 = Y 6 k ∧ Y' = us Y 6 k v)) : r1 = r2 ∧ REL S' Y' := by
  rw [h.1 1 (by omega), h.1 6 (by omega)] at h2
  rcases h1 with ⟨c1, q1, rfl⟩ | ⟨c1, q1, rfl⟩ <;> rcases h2 with ⟨c2, q2, rfl⟩ | ⟨c2, q2, rfl⟩
  · exact ⟨by omega, h⟩
  · exact absurd c2 c1
  · exact absurd c1 c2
  · refine ⟨by omega, REL_graph h ?_ (fun j hj => ?_) (fun k hk => us_n (by omega)) (fun k hk => us_n (by omega))⟩
    · obtain ⟨g1, g2, g3, g4⟩ := h.2.1
      refine ⟨by rw [us_n (by decide)]; exact g1, by rw [us_n (by decide)]; exact g2, ?_, ?_⟩
      · rw [us_n (show 1 ≠ 6 by decide), us_n (show 0 ≠ 6 by decide), us_n (show 2 ≠ 6 by decide), us_n (show 3 ≠ 6 by decide), us_n (show 4 ≠ 6 by decide), us_n (show 5 ≠ 6 by decide), us_s]
        refine ⟨g3.1, g3.2.1, fun j => ?_, g3.2.2.2⟩
        have := g3.2.2.1 j
        by_cases e : j = k
        · subst e; rw [up_s]; omega
        · rw [up_n e]; exact this
      · intro x x0 x1
        have := g4 x x0 x1
        rw [us_n (show 7 ≠ 6 by decide), us_n (show 1 ≠ 6 by decide), us_n (show 2 ≠ 6 by decide), us_n (show 8 + x.toNat ≠ 6 by omega)]
        exact this
    · by_cases c : j = 6
      · subst c; rw [us_s, us_s, h.1 6 (by omega)]
      · rw [us_n c, us_n c]; exact h.1 j hj
theorem lo_new {m : Nat} {F : Int → Int} {u x : Int} : lo_ (m + 1) (up_ F m u) x = lo_ m F x ++ (if x = u then [(m : Int)] else []) := by
  unfold lo_
  rw [dk_succ, List.filter_append]
  congr 1
  · refine List.filter_congr (fun k hk => ?_)
    have := dk_mem.mp hk
    rw [up_n (by omega)]
  · by_cases e : x = u
    · rw [if_pos e, List.filter_cons_of_pos (by rw [up_s]; simp [e])]; rfl
    · rw [if_neg e, List.filter_cons_of_neg (by rw [up_s]; simp; exact fun q => e q.symm)]; rfl
section AD
variable {S : Nat → Int → Int} {u v w1 w2 : Int}
theorem ad_0 : addA S u v w1 w2 0 = S 0 := by
  unfold addA; rw [us_n (by omega), us_n (by omega), us_n (by omega), us_n (by omega), us_n (by omega), us_n (by omega), us_n (by omega), us_n (by omega)]
theorem ad_1 : addA S u v w1 w2 1 = up_ (S 1) 0 (S 1 0 + 1) := by
  unfold addA; rw [us_s, us_n (by omega), us_n (by omega), us_n (by omega), us_n (by omega), us_n (by omega), us_n (by omega), us_n (by omega)]
theorem ad_2 : addA S u v w1 w2 2 = up_ (S 2) (S 1 0) u := by
  unfold addA; rw [us_n (by omega), us_n (by omega), us_n (by omega), us_n (by omega), us_n (by omega), us_n (by omega), us_n (by omega), us_s]
theorem ad_3 : addA S u v w1 w2 3 = up_ (S 3) (S 1 0) v := by
  unfold addA; rw [us_n (by omega), us_n (by omega), us_n (by omega), us_n (by omega), us_n (by omega), us_n (by omega), us_s, us_n (by omega)]
theorem ad_4 : addA S u v w1 w2 4 = up_ (S 4) (S 1 0) w1 := by
  unfold addA; rw [us_n (by omega), us_n (by omega), us_n (by omega), us_n (by omega), us_n (by omega), us_s, us_n (by omega), us_n (by omega)]
theorem ad_5 : addA S u v w1 w2 5 = up_ (S 5) (S 1 0) w2 := by
  unfold addA; rw [us_n (by omega), us_n (by omega), us_n (by omega), us_n (by omega), us_s, us_n (by omega), us_n (by omega), us_n (by omega)]
theorem ad_6 : addA S u v w1 w2 6 = up_ (S 6) (S 1 0) 0 := by
  unfold addA; rw [us_n (by omega), us_n (by omega), us_n (by omega), us_s, us_n (by omega), us_n (by omega), us_n (by omega), us_n (by omega)]
theorem ad_7 : addA S u v w1 w2 7 = up_ (S 7) u (S 7 u + 1) := by
  unfold addA; rw [us_n (by omega), us_s, us_n (by omega), us_n (by omega), us_n (by omega), us_n (by omega), us_n (by omega), us_n (by omega)]
theorem ad_r {x : Nat} (hx : 8 ≤ x) : addA S u v w1 w2 x = if x = 8 + u.toNat then up_ (S x) (S 7 u) (S 1 0) else S x := by
  unfold addA
  rw [us_n (by omega), us_n (by omega)]
  by_cases e : x = 8 + u.toNat
  · rw [if_pos e, e, us_s, us_n (by omega), us_n (by omega), us_n (by omega), us_n (by omega), us_n (by omega)]
  · rw [if_neg e, us_n e, us_n (by omega), us_n (by omega), us_n (by omega), us_n (by omega), us_n (by omega)]
end AD
theorem GIs_add {S : Nat → Int → Int} {u v w1 w2 : Int} (h : GIs S) (ht : twoS S u v) (h1 : wtS w1) (h2 : wtS w2) (hn : S 1 0 < 20) : GIs (addA S u v w1 w2) := by
  obtain ⟨g1, g2, g3, g4⟩ := h
  have em : (((S 1 0).toNat : Nat) : Int) = S 1 0 := by omega
  have en : (S 1 0 + 1).toNat = (S 1 0).toNat + 1 := by omega
  refine ⟨by rw [ad_0]; exact g1, by rw [ad_1, up_s]; omega, ?_, ?_⟩
  · rw [ad_0, ad_1, up_s, ad_2, ad_3, ad_4, ad_5, ad_6, en]
    refine ⟨by omega, g3.2.1, fun k => ?_, fun k k0 k1 => ?_⟩
    · have := g3.2.2.1 k
      by_cases e : k = S 1 0
      · subst e; rw [up_s, up_s, up_s, up_s, up_s]; omega
      · rw [up_n e, up_n e, up_n e, up_n e, up_n e]; exact this
    · by_cases e : k = S 1 0
      · subst e; rw [up_s, up_s]; omega
      · rw [up_n e, up_n e]; exact g3.2.2.2 k k0 (by omega)
  · intro x x0 x1
    have hl := g4 x x0 x1
    rw [ad_1, up_s, ad_2, en, ad_7, ad_r (by omega)]
    have el := lo_new (m := (S 1 0).toNat) (F := S 2) (u := u) (x := x)
    rw [em] at el
    rw [el]
    by_cases e : x = u
    · subst e
      rw [if_pos rfl, if_pos rfl, up_s]
      refine ⟨by rw [hl.1]; simp, fun i hi => ?_⟩
      by_cases ei : i = (lo_ (S 1 0).toNat (S 2) x).length
      · subst ei
        rw [hl.1, up_s]
        simp
      · have hi2 : i < (lo_ (S 1 0).toNat (S 2) x).length := by simp at hi; omega
        rw [up_n (by rw [hl.1]; omega), hl.2 i hi2]
        simp [List.getElem?_append_left hi2]
    · rw [if_neg e, up_n e, if_neg (by omega), List.append_nil]
      exact hl
theorem adB {Y : Nat → Int → Int} {u v w1 w2 : Int} {k : Nat} : addB Y u v w1 w2 k = if k = 1 then up_ (Y 1) 0 (Y 1 0 + 1) else if k = 6 then up_ (Y 6) (Y 1 0) 0 else if k = 5 then up_ (Y 5) (Y 1 0) w2 else if k = 4 then up_ (Y 4) (Y 1 0) w1 else if k = 3 then up_ (Y 3) (Y 1 0) v else if k = 2 then up_ (Y 2) (Y 1 0) u else Y k := by
  unfold addB us
  by_cases c1 : k = 1
  · subst c1; simp
  · by_cases c6 : k = 6
    · subst c6; simp
    · by_cases c5 : k = 5
      · subst c5; simp
      · by_cases c4 : k = 4
        · subst c4; simp
        · by_cases c3 : k = 3
          · subst c3; simp
          · by_cases c2 : k = 2
            · subst c2; simp
            · simp [c1, c2, c3, c4, c5, c6]
theorem e_arc {S Y S' Y' : Nat → Int → Int} {u v w1 w2 r1 r2 : Int} (h : REL S Y) (h1 : (¬ (twoS S u v ∧ wtS w1 ∧ wtS w2) ∧ r1 = -2 ∧ S' = S) ∨ ((twoS S u v ∧ wtS w1 ∧ wtS w2) ∧ ((S 1 0 = 20 ∧ r1 = -3 ∧ S' = S) ∨ (S 1 0 < 20 ∧ r1 = S 1 0 ∧ S' = addA S u v w1 w2)))) (h2 : (¬ (twoS Y u v ∧ wtS w1 ∧ wtS w2) ∧ r2 = -2 ∧ Y' = Y) ∨ ((twoS Y u v ∧ wtS w1 ∧ wtS w2) ∧ ((Y 1 0 = 20 ∧ r2 = -3 ∧ Y' = Y) ∨ (Y 1 0 < 20 ∧ r2 = Y 1 0 ∧ Y' = addB Y u v w1 w2)))) : r1 = r2 ∧ REL S' Y' := by
  unfold twoS at h2
  rw [h.1 0 (by omega), h.1 1 (by omega)] at h2
  rcases h1 with ⟨c1, q1, rfl⟩ | ⟨c1, h1⟩
  · rcases h2 with ⟨c2, q2, rfl⟩ | ⟨c2, h2⟩
    · exact ⟨by omega, h⟩
    · exact absurd c2 c1
  · rcases h2 with ⟨c2, q2, rfl⟩ | ⟨c2, h2⟩
    · exact absurd c1 c2
    · rcases h1 with ⟨d1, q1, rfl⟩ | ⟨d1, q1, rfl⟩ <;> rcases h2 with ⟨d2, q2, rfl⟩ | ⟨d2, q2, rfl⟩
      · exact ⟨by omega, h⟩
      · omega
      · omega
      · refine ⟨by omega, REL_graph h (GIs_add h.2.1 c1.1 c1.2.1 c1.2.2 d1) (fun k hk => ?_) (fun k hk => ?_) (fun k hk => ?_)⟩
        · rw [adB]
          match k, hk with
          | 0, _ => rw [ad_0]; exact h.1 0 (by omega)
          | 1, _ => rw [ad_1, if_pos rfl, h.1 1 (by omega)]
          | 2, _ => rw [ad_2, if_neg (by decide), if_neg (by decide), if_neg (by decide), if_neg (by decide), if_neg (by decide), if_pos rfl, h.1 1 (by omega), h.1 2 (by omega)]
          | 3, _ => rw [ad_3, if_neg (by decide), if_neg (by decide), if_neg (by decide), if_neg (by decide), if_pos rfl, h.1 1 (by omega), h.1 3 (by omega)]
          | 4, _ => rw [ad_4, if_neg (by decide), if_neg (by decide), if_neg (by decide), if_pos rfl, h.1 1 (by omega), h.1 4 (by omega)]
          | 5, _ => rw [ad_5, if_neg (by decide), if_neg (by decide), if_pos rfl, h.1 1 (by omega), h.1 5 (by omega)]
          | 6, _ => rw [ad_6, if_neg (by decide), if_pos rfl, h.1 1 (by omega), h.1 6 (by omega)]
        · rw [ad_r (by omega), if_neg (by have := h.2.1.1; omega)]
        · rw [adB, if_neg (by omega), if_neg (by omega), if_neg (by omega), if_neg (by omega), if_neg (by omega), if_neg (by omega)]
