/-! a heap in an array: the least number first -/
def hp (P : Int → Int) (n : Nat) : Prop := ∀ i : Int, 0 < i → i < n → P ((i - 1) / 2) ≤ P i
theorem hp_min {P : Int → Int} {n : Nat} (h : hp P n) : ∀ (k : Nat) (i : Int), i.toNat ≤ k → 0 ≤ i → i < n → P 0 ≤ P i := by
  intro k
  induction k with
  | zero =>
    intro i hk h0 _
    have : i = 0 := by omega
    rw [this]
    exact Int.le_refl _
  | succ k ih =>
    intro i hk h0 hn
    by_cases e : i = 0
    · rw [e]; exact Int.le_refl _
    · have h1 := h i (by omega) hn
      have h2 := ih ((i - 1) / 2) (by omega) (by omega) (by omega)
      omega
/-- rising: the hole is at q, x is to come there; all is in order but at q -/
def hu (P : Int → Int) (x q : Int) (n : Nat) : Prop :=
  0 ≤ q ∧ q < n ∧ (∀ i : Int, 0 < i → i < n → i ≠ q → up_ P q x ((i - 1) / 2) ≤ up_ P q x i) ∧ (0 < q → ∀ i : Int, 0 < i → i < n → (i - 1) / 2 = q → P ((q - 1) / 2) ≤ P i)
theorem hu_0 {P : Int → Int} {n : Nat} (h : hp P n) (x : Int) : hu P x n (n + 1) := by
  refine ⟨by omega, by omega, fun i h0 hn hq => ?_, fun _ i h0 hn hq => by omega⟩
  rw [up_n (by omega), up_n hq]
  exact h i h0 (by omega)
theorem hu_end {P : Int → Int} {x q : Int} {n : Nat} (h : hu P x q n) (hc : q = 0 ∨ P ((q - 1) / 2) ≤ x) : hp (up_ P q x) n := by
  obtain ⟨h0, h1, h2, -⟩ := h
  intro i hi hn
  by_cases e : i = q
  · subst e
    rcases hc with hc | hc
    · omega
    · rw [up_s, up_n (by omega)]
      exact hc
  · exact h2 i hi hn e
theorem hu_step {P : Int → Int} {x q : Int} {n : Nat} (h : hu P x q n) (h0 : 0 < q) (hc : x < P ((q - 1) / 2)) : hu (up_ P q (P ((q - 1) / 2))) x ((q - 1) / 2) n := by
  obtain ⟨a0, a1, a2, a3⟩ := h
  refine ⟨by omega, by omega, fun i hi hn hq => ?_, fun hp0 i hi hn hq => ?_⟩
  · rw [up_n (j := i) hq]
    by_cases e : i = q
    · subst e
      rw [up_s, up_s]
      omega
    · rw [up_n e]
      by_cases e2 : (i - 1) / 2 = (q - 1) / 2
      · rw [e2, up_s]
        have := a2 i hi hn e
        rw [e2, up_n (by omega), up_n e] at this
        omega
      · rw [up_n e2]
        by_cases e3 : (i - 1) / 2 = q
        · rw [e3, up_s]
          exact a3 h0 i hi hn e3
        · rw [up_n e3]
          have := a2 i hi hn e
          rw [up_n e3, up_n e] at this
          exact this
  · have k1 := a2 ((q - 1) / 2) (by omega) (by omega) (by omega)
    rw [up_n (by omega), up_n (by omega)] at k1
    rw [up_n (j := ((q - 1) / 2 - 1) / 2) (by omega)]
    by_cases e : i = q
    · subst e
      rw [up_s]
      exact k1
    · rw [up_n e]
      have k2 := a2 i hi hn e
      rw [hq, up_n (by omega), up_n e] at k2
      omega
/-- the numbers stay the same when the hole moves -/
theorem hl_move {P : Int → Int} {x q r : Int} {n : Nat} (h0 : 0 ≤ q) (h1 : q < n) (r0 : 0 ≤ r) (r1 : r < n) (hne : q ≠ r) (v : Int) : ct (up_ (up_ P q (P r)) r x) v n = ct (up_ P q x) v n := by
  rw [ct_up v r0 n r1, ct_up v h0 n h1, ct_up v h0 n h1, up_n (fun e => hne e.symm)]
  omega
/-- sinking: the hole is at q, x is to come there; all is in order but below q -/
def hd (P : Int → Int) (x q : Int) (n : Nat) : Prop :=
  0 ≤ q ∧ (∀ i : Int, 0 < i → i < n → (i - 1) / 2 ≠ q → up_ P q x ((i - 1) / 2) ≤ up_ P q x i) ∧ (0 < q → ∀ i : Int, 0 < i → i < n → (i - 1) / 2 = q → P ((q - 1) / 2) ≤ P i)
theorem hd_0 {P : Int → Int} {n : Nat} (h : hp P (n + 1)) (x : Int) : hd P x 0 n := by
  refine ⟨by omega, fun i h0 hn hq => ?_, fun q => by omega⟩
  rw [up_n (by omega), up_n (by omega)]
  exact h i h0 (by omega)
/-- c is the lesser child of q, if there is one -/
def lc (P : Int → Int) (q c : Int) (n : Nat) : Prop := (c = 2 * q + 1 ∨ c = 2 * q + 2) ∧ (c < n → ∀ i : Int, 0 < i → i < n → (i - 1) / 2 = q → P c ≤ P i) ∧ (¬ c < n → ∀ i : Int, 0 < i → i < n → (i - 1) / 2 ≠ q)
theorem hd_end {P : Int → Int} {x q c : Int} {n : Nat} (h : hd P x q n) (hl : lc P q c n) (hc : (n : Int) ≤ c ∨ x ≤ P c) : hp (up_ P q x) n := by
  obtain ⟨h0, h1, h2⟩ := h
  obtain ⟨l0, l1, l2⟩ := hl
  intro i hi hn
  by_cases e : (i - 1) / 2 = q
  · by_cases cn : c < n
    · have := l1 cn i hi hn e
      rw [e, up_s, up_n (by omega)]
      rcases hc with hc | hc <;> omega
    · exact absurd e (l2 cn i hi hn)
  · exact h1 i hi hn e
theorem hd_step {P : Int → Int} {x q c : Int} {n : Nat} (h : hd P x q n) (hl : lc P q c n) (hcn : c < n) (hc : P c < x) : hd (up_ P q (P c)) x c n := by
  obtain ⟨h0, h1, h2⟩ := h
  obtain ⟨l0, l1, l2⟩ := hl
  refine ⟨by omega, fun i hi hn hq => ?_, fun hp0 i hi hn hq => ?_⟩
  · rw [up_n (j := (i - 1) / 2) hq]
    by_cases e : i = c
    · subst e
      have e2 : (i - 1) / 2 = q := by omega
      rw [e2, up_s, up_s]
      omega
    · rw [up_n (j := i) e]
      by_cases e2 : (i - 1) / 2 = q
      · rw [e2, up_s, up_n (by omega)]
        exact l1 hcn i hi hn e2
      · rw [up_n e2]
        by_cases e3 : i = q
        · subst e3
          rw [up_s]
          have := h2 (by omega) c (by omega) hcn (by omega)
          exact this
        · rw [up_n e3]
          have := h1 i hi hn e2
          rw [up_n e2, up_n e3] at this
          exact this
  · have e : (c - 1) / 2 = q := by omega
    rw [e, up_s, up_n (by omega)]
    have := h1 i hi hn (by omega)
    rw [hq, up_n (by omega), up_n (by omega)] at this
    exact this
/-! what comes out of a heap is what a sorted list has -/
theorem hp_first {P : Int → Int} {n : Nat} {a : Int} {l : List Int} (h : hp P n) (hs : (a :: l).Pairwise (fun x y => x ≤ y)) (hc : ∀ v, ct P v n = ((a :: l).count v : Nat)) (hn : 0 < n) : P 0 = a := by
  have h1 : P 0 ∈ a :: l := by
    have := ct_in (f := P) (n := n) (i := 0) (by omega) (by omega)
    rw [hc] at this
    exact List.count_pos_iff.mp (by omega)
  have h2 : a ≤ P 0 := by
    rcases List.mem_cons.mp h1 with e | e
    · omega
    · exact (List.pairwise_cons.mp hs).1 _ e
  have h3 : 0 < ct P a n := by
    rw [hc]
    have : 0 < (a :: l).count a := List.count_pos_iff.mpr (by simp)
    omega
  obtain ⟨j, j0, j1, j2⟩ := ct_pos h3
  have := hp_min h j.toNat j (Nat.le_refl _) j0 j1
  omega
theorem hp_rest {P : Int → Int} {n : Nat} {l : List Int} (hc : ∀ v, ct P v (n + 1) = ((P 0 :: l).count v : Nat)) (hn : 0 < n) (v : Int) : ct (up_ P 0 (P n)) v n = (l.count v : Nat) := by
  rw [ct_up v (by omega) n (by omega)]
  have h1 := hc v
  rw [ct_s] at h1
  rw [List.count_cons] at h1
  simp only [beq_iff_eq] at h1
  split at h1 <;> split at h1 <;> (rename_i c1 c2; simp [c1, c2]; omega)
