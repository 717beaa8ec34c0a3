/-! the answers are the same -/
theorem two_eq {S Y : Nat → Int → Int} {u v : Int} (h : REL S Y) : twoS Y u v ↔ twoS S u v := by
  unfold twoS
  rw [h.1 0 (by omega)]
theorem e_count {S Y S' Y' : Nat → Int → Int} {u v r1 r2 : Int} (h : REL S Y) (h1 : (¬ twoS S u v ∧ r1 = -2 ∧ S' = S) ∨ (twoS S u v ∧ r1 = (spS S u v).length ∧ eqx [16, 17, 18, 19, 20] S S' ∧ BZ S')) (h2 : (¬ twoS Y u v ∧ r2 = -2 ∧ Y' = Y) ∨ (twoS Y u v ∧ r2 = (spS Y u v).length ∧ eqx c9 Y Y')) : r1 = r2 ∧ REL S' Y' := by
  rw [two_eq h, h.sp] at h2
  rcases h1 with ⟨c1, q1, rfl⟩ | ⟨c1, q1, q2, q3⟩ <;> rcases h2 with ⟨c2, p1, rfl⟩ | ⟨c2, p1, p2⟩
  · exact ⟨by omega, h⟩
  · exact absurd c2 c1
  · exact absurd c1 c2
  · exact ⟨by omega, REL_eq h (fun k hk => q2 k (by simp; omega)) q3 (fun k hk => p2 k (by simp; omega))⟩
theorem sp_ne {S : Nat → Int → Int} {u v : Int} (hG : GIs S) (ht : twoS S u v) {i : Nat} (hi : i < (spS S u v).length) : (spS S u v).getD i [] ≠ [] ∧ ok5 ((spS S u v).getD i []) := by
  have hs := spS_at hG ⟨ht.1, ht.2.1⟩ hi
  refine ⟨fun e => ?_, hs.1⟩
  have h2 := hs.2.1
  rw [e] at h2
  exact ht.2.2.2.2 h2
theorem e_next {S Y S' Y' : Nat → Int → Int} {u v k r1 r2 : Int} (h : REL S Y)
    (h1 : (¬ (twoS S u v ∧ 0 ≤ k ∧ k ≤ 299) ∧ r1 = -2 ∧ S' = S) ∨ ((twoS S u v ∧ 0 ≤ k ∧ k ≤ 299) ∧ BZ S' ∧ ((((spS S u v).length : Int) ≤ k ∧ r1 = -1 ∧ eqx [16, 17, 18, 19, 20] S S') ∨ (k < (spS S u v).length ∧ r1 = ((spS S u v).getD k.toNat []).length ∧ eqx [16, 17, 18, 19, 20, 30, 31, 32, 33] S S' ∧ TL S' ((spS S u v).getD k.toNat []) (wp (S 4) ((spS S u v).getD k.toNat [])) (wp (S 5) ((spS S u v).getD k.toNat []))))))
    (h2 : (¬ (twoS Y u v ∧ 0 ≤ k ∧ k ≤ 299) ∧ r2 = -2 ∧ Y' = Y) ∨ ((twoS Y u v ∧ 0 ≤ k ∧ k ≤ 299) ∧ ((((spS Y u v).length : Int) ≤ k ∧ r2 = -1 ∧ eqx c9 Y Y') ∨ (k < (spS Y u v).length ∧ r2 = ((spS Y u v).getD k.toNat []).length ∧ eqx c14 Y Y' ∧ TLY Y' ((spS Y u v).getD k.toNat []) (wp (Y 4) ((spS Y u v).getD k.toNat [])) (wp (Y 5) ((spS Y u v).getD k.toNat [])))))) : r1 = r2 ∧ REL S' Y' := by
  rw [two_eq h, h.sp, h.1 4 (by omega), h.1 5 (by omega)] at h2
  rcases h1 with ⟨c1, q1, rfl⟩ | ⟨c1, qz, h1⟩ <;> rcases h2 with ⟨c2, p1, rfl⟩ | ⟨c2, h2⟩
  · exact ⟨by omega, h⟩
  · exact absurd c2 c1
  · exact absurd c1 c2
  · rcases h1 with ⟨d1, q1, q2⟩ | ⟨d1, q1, q2, q3⟩ <;> rcases h2 with ⟨d2, p1, p2⟩ | ⟨d2, p1, p2, p3⟩
    · exact ⟨by omega, REL_eq h (fun k hk => q2 k (by simp; omega)) qz (fun k hk => p2 k (by simp; omega))⟩
    · omega
    · omega
    · have hp := sp_ne h.2.1 c1.1 (i := k.toNat) (by omega)
      exact ⟨by omega, REL_told h (fun k hk => q2 k (by simp; omega)) qz (fun k hk => p2 k (by simp; omega)) hp.1 hp.2 q3 p3⟩
theorem e_within {S Y S' Y' : Nat → Int → Int} {u v k r1 r2 : Int} (h : REL S Y)
    (h1 : (¬ (twoS S u v ∧ 0 ≤ k ∧ k ≤ 7000) ∧ r1 = -2 ∧ S' = S) ∨ ((twoS S u v ∧ 0 ≤ k ∧ k ≤ 7000) ∧ BZ S' ∧ (((∀ j : Nat, j < (spS S u v).length → k < wp (S 5) ((spS S u v).getD j [])) ∧ r1 = -1 ∧ eqx [16, 17, 18, 19, 20] S S') ∨ (∃ i : Nat, i < (spS S u v).length ∧ (∀ j : Nat, j < i → k < wp (S 5) ((spS S u v).getD j [])) ∧ wp (S 5) ((spS S u v).getD i []) ≤ k ∧ r1 = ((spS S u v).getD i []).length ∧ eqx [16, 17, 18, 19, 20, 30, 31, 32, 33] S S' ∧ TL S' ((spS S u v).getD i []) (wp (S 4) ((spS S u v).getD i [])) (wp (S 5) ((spS S u v).getD i []))))))
    (h2 : (¬ (twoS Y u v ∧ 0 ≤ k ∧ k ≤ 7000) ∧ r2 = -2 ∧ Y' = Y) ∨ ((twoS Y u v ∧ 0 ≤ k ∧ k ≤ 7000) ∧ (((∀ j : Nat, j < (spS Y u v).length → k < wp (Y 5) ((spS Y u v).getD j [])) ∧ r2 = -1 ∧ eqx c9 Y Y') ∨ (∃ i : Nat, i < (spS Y u v).length ∧ (∀ j : Nat, j < i → k < wp (Y 5) ((spS Y u v).getD j [])) ∧ wp (Y 5) ((spS Y u v).getD i []) ≤ k ∧ r2 = ((spS Y u v).getD i []).length ∧ eqx c14 Y Y' ∧ TLY Y' ((spS Y u v).getD i []) (wp (Y 4) ((spS Y u v).getD i [])) (wp (Y 5) ((spS Y u v).getD i [])))))) : r1 = r2 ∧ REL S' Y' := by
  rw [two_eq h, h.sp, h.1 4 (by omega), h.1 5 (by omega)] at h2
  rcases h1 with ⟨c1, q1, rfl⟩ | ⟨c1, qz, h1⟩ <;> rcases h2 with ⟨c2, p1, rfl⟩ | ⟨c2, h2⟩
  · exact ⟨by omega, h⟩
  · exact absurd c2 c1
  · exact absurd c1 c2
  · rcases h1 with ⟨d1, q1, q2⟩ | ⟨i, i0, i1, i2, q1, q2, q3⟩ <;> rcases h2 with ⟨d2, p1, p2⟩ | ⟨j, j0, j1, j2, p1, p2, p3⟩
    · exact ⟨by omega, REL_eq h (fun k hk => q2 k (by simp; omega)) qz (fun k hk => p2 k (by simp; omega))⟩
    · have := d1 j j0; omega
    · have := d2 i i0; omega
    · have hij : i = j := by
        rcases Nat.lt_trichotomy i j with c | c | c
        · have := j1 i c; omega
        · exact c
        · have := i1 j c; omega
      subst hij
      have hp := sp_ne h.2.1 c1.1 i0
      exact ⟨by omega, REL_told h (fun k hk => q2 k (by simp; omega)) qz (fun k hk => p2 k (by simp; omega)) hp.1 hp.2 q3 p3⟩
theorem cuL_eq {S Y : Nat → Int → Int} {u v y m : Int} (h : REL S Y) : cuL Y u v y m ↔ cuL S u v y m := by
  unfold cuL
  rw [h.1 0 (by omega), h.1 1 (by omega), h.1 2 (by omega), h.1 3 (by omega), h.1 6 (by omega)]
theorem cuG_eq {S Y : Nat → Int → Int} {u v y m : Int} (h : REL S Y) : cuG Y u v y m ↔ cuG S u v y m := by
  unfold cuG
  rw [h.1 0 (by omega), h.1 1 (by omega), h.1 2 (by omega), h.1 3 (by omega), h.1 6 (by omega)]
theorem e_most {S Y S' Y' : Nat → Int → Int} {u v y r1 r2 : Int} (h : REL S Y)
    (h1 : (¬ (twoS S u v ∧ (0 ≤ y ∧ y ≤ 1)) ∧ r1 = -2 ∧ S' = S) ∨ ((twoS S u v ∧ (0 ≤ y ∧ y ≤ 1)) ∧ eqx [21, 22, 23, 24, 25, 26, 27, 28, 29] S S' ∧ (0 ≤ r1 ∧ r1 ≤ 20) ∧ cuL S u v y r1 ∧ (r1 = 20 ∨ cuG S u v y r1)))
    (h2 : (¬ (twoS Y u v ∧ (0 ≤ y ∧ y ≤ 1)) ∧ r2 = -2 ∧ Y' = Y) ∨ ((twoS Y u v ∧ (0 ≤ y ∧ y ≤ 1)) ∧ Y' = Y ∧ (0 ≤ r2 ∧ r2 ≤ 20) ∧ cuL Y u v y r2 ∧ (r2 = 20 ∨ cuG Y u v y r2))) : r1 = r2 ∧ REL S' Y' := by
  rw [two_eq h, cuL_eq h, cuG_eq h] at h2
  rcases h1 with ⟨c1, q1, rfl⟩ | ⟨c1, q1, q2, q3, q4⟩ <;> rcases h2 with ⟨c2, p1, rfl⟩ | ⟨c2, rfl, p2, p3, p4⟩
  · exact ⟨by omega, h⟩
  · exact absurd c2 c1
  · exact absurd c1 c2
  · refine ⟨?_, REL_eq h (fun k hk => q1 k (by simp; omega)) (BZ_eq (q1 18 (by decide)) h.2.2.1) (fun _ _ => rfl)⟩
    have a1 : r1 ≤ r2 := by
      rcases p4 with p4 | p4
      · omega
      · exact cu_le q3 p4
    have a2 : r2 ≤ r1 := by
      rcases q4 with q4 | q4
      · omega
      · exact cu_le p3 q4
    omega
theorem e_apart {S Y S' Y' : Nat → Int → Int} {u v n y r1 r2 : Int} (h : REL S Y)
    (h1 : (¬ (twoS S u v ∧ (1 ≤ n ∧ n ≤ 5) ∧ (0 ≤ y ∧ y ≤ 1)) ∧ r1 = -2 ∧ S' = S) ∨ ((twoS S u v ∧ (1 ≤ n ∧ n ≤ 5) ∧ (0 ≤ y ∧ y ≤ 1)) ∧ eqx [21, 22, 23, 24, 25, 26, 27, 28, 29] S S' ∧ ((r1 = -1 ∧ ∃ kp : Int, 0 ≤ kp ∧ kp < n ∧ cuG S u v y kp) ∨ (cuL S u v y n ∧ ∀ cf : List Int → List (List Int) → Bool, (∀ P Q, cf P Q = false ↔ ∀ R, R ∈ Q → ap (S 3) y R P) → se (wp (S 4)) cf (spS S u v) n.toNat 0 [] (-1) = r1))))
    (h2 : (¬ (twoS Y u v ∧ (1 ≤ n ∧ n ≤ 5) ∧ (0 ≤ y ∧ y ≤ 1)) ∧ r2 = -2 ∧ Y' = Y) ∨ ((twoS Y u v ∧ (1 ≤ n ∧ n ≤ 5) ∧ (0 ≤ y ∧ y ≤ 1)) ∧ eqx [7, 8, 9, 10, 11, 12, 13, 22, 23, 24, 25, 26, 27] Y Y' ∧ ∃ k : Int, (0 ≤ k ∧ k ≤ 20) ∧ cuL Y u v y k ∧ (k = 20 ∨ cuG Y u v y k) ∧ ((k < n ∧ r2 = -1) ∨ (n ≤ k ∧ r2 = se (wp (Y 4)) (cfN (Y 3) y) (spS Y u v) n.toNat 0 [] (-1))))) : r1 = r2 ∧ REL S' Y' := by
  rcases h1 with ⟨c1, q1, rfl⟩ | ⟨c1, q1, q2⟩ <;> rcases h2 with ⟨c2, p1, rfl⟩ | ⟨c2, p1, k, k1, k2, k3, p2⟩
  · exact ⟨by omega, h⟩
  · rw [two_eq h] at c2; exact absurd c2 c1
  · rw [two_eq h] at c2; exact absurd c1 c2
  · rw [cuL_eq h] at k2
    rw [cuG_eq h] at k3
    rw [h.sp, h.1 3 (by omega), h.1 4 (by omega)] at p2
    refine ⟨?_, REL_eq h (fun k hk => q1 k (by simp; omega)) (BZ_eq (q1 18 (by decide)) h.2.2.1) (fun k hk => p1 k (by simp; omega))⟩
    rcases q2 with ⟨e1, kp, g0, g1, g2⟩ | ⟨g1, g2⟩
    · have hk := cu_le k2 g2
      rcases p2 with ⟨-, e2⟩ | ⟨f1, -⟩
      · omega
      · omega
    · have hk : n ≤ k := by
        rcases k3 with k3 | k3
        · omega
        · exact cu_le g1 k3
      rcases p2 with ⟨f1, -⟩ | ⟨-, e2⟩
      · omega
      · rw [e2]
        exact (g2 _ (fun P Q => cfN_f P Q)).symm
theorem e_pairs {S Y S' Y' : Nat → Int → Int} {u v r1 r2 : Int} (h : REL S Y)
    (h1 : (¬ twoS S u v ∧ r1 = -2 ∧ S' = S) ∨ (twoS S u v ∧ BZ S' ∧ eqx [16, 17, 18, 19, 20, 34, 35, 36] S S' ∧ ∃ B, fnt (prsS S u v) B ∧ PB S' B ∧ B.length ≤ 1458 ∧ r1 = B.length))
    (h2 : (¬ twoS Y u v ∧ r2 = -2 ∧ Y' = Y) ∨ (twoS Y u v ∧ eqx [7, 8, 9, 10, 11, 12, 13, 19, 20, 21, 22, 23] Y Y' ∧ ∃ B, fnt (prsS Y u v) B ∧ PBY Y' B ∧ B.length ≤ 1458 ∧ r2 = B.length)) : r1 = r2 ∧ REL S' Y' := by
  rcases h1 with ⟨c1, q1, rfl⟩ | ⟨c1, qz, q1, B, q2, q3, q4, q5⟩ <;> rcases h2 with ⟨c2, p1, rfl⟩ | ⟨c2, p1, B', p2, p3, p4, p5⟩
  · exact ⟨by omega, h⟩
  · rw [two_eq h] at c2; exact absurd c2 c1
  · rw [two_eq h] at c2; exact absurd c1 c2
  · have e : prsS Y u v = prsS S u v := by
      unfold prsS prS
      rw [h.sp, h.1 4 (by omega), h.1 5 (by omega)]
    rw [e] at p2
    have hB := fnt_uniq q2 p2
    subst hB
    exact ⟨by omega, REL_pairs h (fun k hk => q1 k (by simp; omega)) qz (fun k hk => p1 k (by simp; omega)) q4 q3 p3⟩
theorem e_pair {S Y S' Y' : Nat → Int → Int} {i w r1 r2 : Int} (h : REL S Y)
    (h1 : S' = S ∧ (((0 ≤ i ∧ i < S 36 0) ∧ w = 0 ∧ r1 = S 34 i) ∨ ((0 ≤ i ∧ i < S 36 0) ∧ w = 1 ∧ r1 = S 35 i) ∨ (¬ ((0 ≤ i ∧ i < S 36 0) ∧ (w = 0 ∨ w = 1)) ∧ r1 = -2)))
    (h2 : Y' = Y ∧ (((0 ≤ i ∧ i < Y 19 0) ∧ w = 0 ∧ r2 = Y 20 i) ∨ ((0 ≤ i ∧ i < Y 19 0) ∧ w = 1 ∧ r2 = Y 21 i) ∨ (¬ ((0 ≤ i ∧ i < Y 19 0) ∧ (w = 0 ∨ w = 1)) ∧ r2 = -2))) : r1 = r2 ∧ REL S' Y' := by
  obtain ⟨rfl, h1⟩ := h1
  obtain ⟨rfl, h2⟩ := h2
  refine ⟨?_, h⟩
  obtain ⟨B, b1, b2, b3⟩ := h.2.2.2.2
  have e1 := b2.1
  have e2 := b3.1
  by_cases c : 0 ≤ i ∧ i < B.length
  · have f1 := b2.2 i.toNat (by omega)
    have f2 := b3.2 i.toNat (by omega)
    rw [show ((i.toNat : Nat) : Int) = i by omega] at f1 f2
    omega
  · omega
theorem e_step {S Y S' Y' : Nat → Int → Int} {i r1 r2 : Int} {P : List Int} (h : REL S Y) (hP : (S 31 0 = 0 ∧ Y 14 0 = 0) ∨ (P ≠ [] ∧ ok5 P ∧ TL S P (S 32 0) (S 33 0) ∧ TLY Y P (S 32 0) (S 33 0)))
    (h1 : S' = S ∧ (((0 ≤ i ∧ i < S 31 0) ∧ r1 = S 30 i) ∨ (¬ (0 ≤ i ∧ i < S 31 0) ∧ r1 = -2)))
    (h2 : Y' = Y ∧ (((Y 14 0 = 1 ∧ 0 ≤ i ∧ i < P.length) ∧ r2 = P.getD i.toNat 0) ∨ (¬ (Y 14 0 = 1 ∧ 0 ≤ i ∧ i < P.length) ∧ r2 = -2))) : r1 = r2 ∧ REL S' Y' := by
  obtain ⟨rfl, h1⟩ := h1
  obtain ⟨rfl, h2⟩ := h2
  refine ⟨?_, h⟩
  rcases hP with ⟨e1, e2⟩ | ⟨p1, p2, p3, p4⟩
  · omega
  · have e1 := p3.1
    have e2 := p4.1
    by_cases c : 0 ≤ i ∧ i < P.length
    · have f1 := p3.2.2.2 i.toNat (by omega)
      rw [show ((i.toNat : Nat) : Int) = i by omega] at f1
      omega
    · omega
theorem e_sum {S Y S' Y' : Nat → Int → Int} {w r1 r2 : Int} (h : REL S Y)
    (h1 : S' = S ∧ ((¬ (0 ≤ w ∧ w ≤ 2) ∧ r1 = -2) ∨ ((0 ≤ w ∧ w ≤ 2) ∧ ((S 31 0 = 0 ∧ r1 = -1) ∨ (S 31 0 ≠ 0 ∧ ((w = 0 ∧ r1 = S 32 0) ∨ (w = 1 ∧ r1 = S 33 0) ∨ (w = 2 ∧ r1 = S 31 0)))))))
    (h2 : Y' = Y ∧ ((¬ (0 ≤ w ∧ w ≤ 2) ∧ r2 = -2) ∨ ((0 ≤ w ∧ w ≤ 2) ∧ ((Y 14 0 = 0 ∧ r2 = -1) ∨ (Y 14 0 ≠ 0 ∧ ((w = 0 ∧ r2 = Y 15 0) ∨ (w = 1 ∧ r2 = Y 16 0) ∨ (w = 2 ∧ r2 = Y 17 0))))))) : r1 = r2 ∧ REL S' Y' := by
  obtain ⟨rfl, h1⟩ := h1
  obtain ⟨rfl, h2⟩ := h2
  refine ⟨?_, h⟩
  rcases h.2.2.2.1 with ⟨e1, e2⟩ | ⟨P, p1, p2, p3, p4⟩
  · omega
  · have hl : 0 < P.length := List.length_pos_iff.mpr p1
    obtain ⟨a1, a2, a3, -⟩ := p3
    obtain ⟨b1, b2, b3, b4, -⟩ := p4
    omega
theorem e_told {S Y S' Y' : Nat → Int → Int} {k w r1 r2 : Int} (h : REL S Y)
    (h1 : S' = S ∧ ((¬ ((0 ≤ k ∧ k < S 1 0) ∧ 0 ≤ w ∧ w ≤ 4) ∧ r1 = -2) ∨ (((0 ≤ k ∧ k < S 1 0) ∧ 0 ≤ w ∧ w ≤ 4) ∧ r1 = arT S k w)))
    (h2 : Y' = Y ∧ ((¬ ((0 ≤ k ∧ k < Y 1 0) ∧ 0 ≤ w ∧ w ≤ 4) ∧ r2 = -2) ∨ (((0 ≤ k ∧ k < Y 1 0) ∧ 0 ≤ w ∧ w ≤ 4) ∧ r2 = arT Y k w))) : r1 = r2 ∧ REL S' Y' := by
  obtain ⟨rfl, h1⟩ := h1
  obtain ⟨rfl, h2⟩ := h2
  refine ⟨?_, h⟩
  have e : arT Y' k w = arT S' k w := by
    unfold arT
    rw [h.1 2 (by omega), h.1 3 (by omega), h.1 4 (by omega), h.1 5 (by omega), h.1 6 (by omega)]
  rw [e, h.1 1 (by omega)] at h2
  omega
theorem e_of {S Y S' Y' : Nat → Int → Int} {w r1 r2 : Int} (h : REL S Y)
    (h1 : S' = S ∧ ((w = 0 ∧ r1 = S 0 0) ∨ (w = 1 ∧ r1 = S 1 0) ∨ (w = 2 ∧ r1 = sm (S 6) (S 1 0).toNat) ∨ (¬ (0 ≤ w ∧ w ≤ 2) ∧ r1 = -2)))
    (h2 : Y' = Y ∧ ((w = 0 ∧ r2 = Y 0 0) ∨ (w = 1 ∧ r2 = Y 1 0) ∨ (w = 2 ∧ r2 = sm (Y 6) (Y 1 0).toNat) ∨ (¬ (0 ≤ w ∧ w ≤ 2) ∧ r2 = -2))) : r1 = r2 ∧ REL S' Y' := by
  obtain ⟨rfl, h1⟩ := h1
  obtain ⟨rfl, h2⟩ := h2
  refine ⟨?_, h⟩
  rw [h.1 0 (by omega), h.1 1 (by omega), h.1 6 (by omega)] at h2
  omega
