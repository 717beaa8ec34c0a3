/-! the paths from a to b in their order -/
def sp (n : Nat) (F T Sh W : Int → Int) (a b : Int) : List (List Int) := (df n F T Sh b 7 a []).mergeSort (fun P Q => decide (cd W P ≤ cd W Q))
/-- what the graph's numbers are: n arcs, N nodes -/
def gok (n N : Nat) (F T W S2 Sh : Int → Int) : Prop := n ≤ 20 ∧ N ≤ 8 ∧ (∀ k, 0 ≤ F k ∧ F k < 8 ∧ 0 ≤ T k ∧ T k < 8 ∧ 0 ≤ W k ∧ W k ≤ 1000 ∧ 0 ≤ S2 k ∧ S2 k ≤ 1000 ∧ (Sh k = 0 ∨ Sh k = 1)) ∧ ∀ k : Int, 0 ≤ k → k < n → F k < N ∧ T k < N ∧ F k ≠ T k
section SP
variable {n N : Nat} {F T W S2 Sh : Int → Int} {a b : Int}
theorem sp_perm : (sp n F T Sh W a b).Perm (df n F T Sh b 7 a []) := List.mergeSort_perm _ _
theorem sp_sorted : (sp n F T Sh W a b).Pairwise (fun P Q => cd W P ≤ cd W Q) := by
  have := List.pairwise_mergeSort (le := fun P Q => decide (cd W P ≤ cd W Q)) (fun x y z h1 h2 => by
    simp only [decide_eq_true_eq] at *; omega) (fun x y => by
    simp only [Bool.or_eq_true, decide_eq_true_eq]; omega) (df n F T Sh b 7 a [])
  exact this.imp (fun h => by simpa using h)
theorem vq_seven (h : gok n N F T W S2 Sh) (ha : 0 ≤ a ∧ a < N) {P : List Int} (hP : vq n F T Sh b a [] P) : P.length ≤ 7 := by
  have := vq_len (N := N) (fun k k0 k1 => ⟨(h.2.2.1 k).2.2.1, (h.2.2.2 k k0 k1).2.1⟩) P a [] (by simp) (fun v hv => by
    have : v = a := by simpa using hv
    subst this; exact ha) hP
  have := h.2.1
  simp only [List.length_nil] at *
  omega
theorem sp_mem (h : gok n N F T W S2 Sh) (ha : 0 ≤ a ∧ a < N) (P : List Int) : P ∈ sp n F T Sh W a b ↔ vq n F T Sh b a [] P := by
  rw [(sp_perm (n := n) (F := F) (T := T) (Sh := Sh) (W := W) (a := a) (b := b)).mem_iff, df_mem]
  exact ⟨fun q => q.1, fun q => ⟨q, vq_seven h ha q⟩⟩
theorem vq_ok5 (h : gok n N F T W S2 Sh) (ha : 0 ≤ a ∧ a < N) {P : List Int} (hP : vq n F T Sh b a [] P) : ok5 P :=
  ⟨vq_seven h ha hP, fun k hk => by have := vq_arcs P a [] hP k hk; have := h.1; omega⟩
theorem sp_ok5 (h : gok n N F T W S2 Sh) (ha : 0 ≤ a ∧ a < N) {P : List Int} (hP : P ∈ sp n F T Sh W a b) : ok5 P := vq_ok5 h ha ((sp_mem h ha P).mp hP)
theorem sp_len (h : gok n N F T W S2 Sh) (ha : 0 ≤ a ∧ a < N) (hb : 0 ≤ b ∧ b < N) : (sp n F T Sh W a b).length ≤ 1458 := by
  rw [(sp_perm (n := n) (F := F) (T := T) (Sh := Sh) (W := W) (a := a) (b := b)).length_eq]
  have h8 := h.2.1
  exact df_max (fun k => ⟨(h.2.2.1 k).2.2.1, (h.2.2.1 k).2.2.2.1⟩) h.1 hb.1 (by omega) 7 ha.1 (by omega)
theorem sp_w (h : gok n N F T W S2 Sh) (ha : 0 ≤ a ∧ a < N) : (sp n F T Sh W a b).Pairwise (fun P Q => wp W P ≤ wp W Q) := by
  refine List.Pairwise.imp_of_mem (R := fun P Q => cd W P ≤ cd W Q) (fun {P Q} hP hQ hc => ?_) sp_sorted
  have e1 := cd_w (W := W) (sp_ok5 h ha hP)
  have e2 := cd_w (W := W) (sp_ok5 h ha hQ)
  omega
theorem sp_uniq (h : gok n N F T W S2 Sh) (ha : 0 ≤ a ∧ a < N) {R : List (List Int)} (h1 : R.Perm (df n F T Sh b 7 a [])) (h2 : R.Pairwise (fun P Q => cd W P ≤ cd W Q)) : R = sp n F T Sh W a b := by
  have hp := h1.trans (sp_perm (n := n) (F := F) (T := T) (Sh := Sh) (W := W) (a := a) (b := b)).symm
  refine List.Perm.eq_of_pairwise (le := fun P Q => cd W P ≤ cd W Q) (fun P Q hP hQ l1 l2 => ?_) h2 sp_sorted hp
  exact cd_inj (W := W) (sp_ok5 h ha (hp.subset hP)) (sp_ok5 h ha hQ) (by omega)
end SP
