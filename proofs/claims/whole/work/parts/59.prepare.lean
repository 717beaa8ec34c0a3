/-! the class: the edges of a graph -/
theorem adE_old {S : Nat → Int → Int} {g z1 z2 z3 z4 x : Int} {k : Nat} (hx : x < g) (hk : k ≠ 27) : adE S g z1 z2 z3 z4 k x = S k x := by
  unfold adE us up_
  simp only [hk, if_false]
  by_cases c1 : k = 24
  · subst c1; simp; omega
  · by_cases c2 : k = 23
    · subst c2; simp; omega
    · by_cases c3 : k = 22
      · subst c3; simp; omega
      · by_cases c4 : k = 21
        · subst c4; simp; omega
        · simp [c1, c2, c3, c4]
theorem adE_g {S : Nat → Int → Int} {g z1 z2 z3 z4 : Int} : adE S g z1 z2 z3 z4 21 g = z1 ∧ adE S g z1 z2 z3 z4 22 g = z2 ∧ adE S g z1 z2 z3 z4 23 g = z3 ∧ adE S g z1 z2 z3 z4 24 g = z4 ∧ adE S g z1 z2 z3 z4 21 (g + 1) = z2 ∧ adE S g z1 z2 z3 z4 22 (g + 1) = z1 ∧ adE S g z1 z2 z3 z4 23 (g + 1) = -z3 ∧ adE S g z1 z2 z3 z4 24 (g + 1) = 0 ∧ adE S g z1 z2 z3 z4 27 0 = g + 2 := by
  unfold adE us up_
  have : ¬ g = g + 1 := by omega
  simp [this]
theorem adE_eqx {S : Nat → Int → Int} {g z1 z2 z3 z4 : Int} : eqx [21, 22, 23, 24, 27] S (adE S g z1 z2 z3 z4) := by
  intro k hk
  simp only [List.mem_cons, List.not_mem_nil, or_false, not_or] at hk
  unfold adE us
  simp [hk]
/-- M pairs of edges stand in the arrays, nothing flows -/
def PE (S : Nat → Int → Int) (M : Nat) : Prop := S 27 0 = (2 * M : Nat) ∧ ∀ j : Int, 0 ≤ j → j < M → S 21 (2 * j + 1) = S 22 (2 * j) ∧ S 22 (2 * j + 1) = S 21 (2 * j) ∧ S 23 (2 * j + 1) = - S 23 (2 * j) ∧ S 24 (2 * j + 1) = 0 ∧ (0 ≤ S 21 (2 * j) ∧ S 21 (2 * j) < 16) ∧ (0 ≤ S 22 (2 * j) ∧ S 22 (2 * j) < 16) ∧ S 21 (2 * j) ≠ S 22 (2 * j) ∧ (0 ≤ S 23 (2 * j) ∧ S 23 (2 * j) ≤ 1000) ∧ (0 ≤ S 24 (2 * j) ∧ S 24 (2 * j) ≤ 20)
theorem PE_s {S : Nat → Int → Int} {M : Nat} {z1 z2 z3 z4 : Int} (h : PE S M) (h1 : 0 ≤ z1 ∧ z1 < 16) (h2 : 0 ≤ z2 ∧ z2 < 16) (h12 : z1 ≠ z2) (h3 : 0 ≤ z3 ∧ z3 ≤ 1000) (h4 : 0 ≤ z4 ∧ z4 ≤ 20) : PE (adE S (2 * M : Nat) z1 z2 z3 z4) (M + 1) := by
  obtain ⟨a1, a2, a3, a4, a5, a6, a7, a8, a9⟩ := adE_g (S := S) (g := (2 * M : Nat)) (z1 := z1) (z2 := z2) (z3 := z3) (z4 := z4)
  refine ⟨by rw [a9]; omega, fun j j0 j1 => ?_⟩
  by_cases e : j = M
  · have e1 : 2 * j = ((2 * M : Nat) : Int) := by omega
    rw [e1, a1, a2, a3, a4, a5, a6, a7, a8]
    exact ⟨rfl, rfl, rfl, rfl, h1, h2, h12, h3, h4⟩
  · have hj : 2 * j + 1 < ((2 * M : Nat) : Int) := by omega
    rw [adE_old (k := 21) (x := 2 * j + 1) (by omega) (by decide), adE_old (k := 22) (x := 2 * j) (by omega) (by decide), adE_old (k := 22) (x := 2 * j + 1) (by omega) (by decide), adE_old (k := 21) (x := 2 * j) (by omega) (by decide), adE_old (k := 23) (x := 2 * j + 1) (by omega) (by decide), adE_old (k := 23) (x := 2 * j) (by omega) (by decide), adE_old (k := 24) (x := 2 * j + 1) (by omega) (by decide), adE_old (k := 24) (x := 2 * j) (by omega) (by decide)]
    exact h.2 j j0 (by omega)
/-- the first k arcs have their edges -/
def A1z (S0 S : Nat → Int → Int) (k : Nat) : Prop := ∀ j : Int, 0 ≤ j → j < k → S0 6 j = 0 → S 21 (2 * (oa (S0 6) j.toNat : Nat)) = 2 * S0 2 j + 1 ∧ S 22 (2 * (oa (S0 6) j.toNat : Nat)) = 2 * S0 3 j ∧ S 23 (2 * (oa (S0 6) j.toNat : Nat)) = S0 4 j ∧ S 24 (2 * (oa (S0 6) j.toNat : Nat)) = 1
def A2z (S0 S : Nat → Int → Int) (u b c : Int) (n m : Nat) : Prop := ∀ v : Int, 0 ≤ v → v < m → v ≠ u → v ≠ b → S 21 (2 * (oa (S0 6) n + nv u b v.toNat : Nat)) = 2 * v ∧ S 22 (2 * (oa (S0 6) n + nv u b v.toNat : Nat)) = 2 * v + 1 ∧ S 23 (2 * (oa (S0 6) n + nv u b v.toNat : Nat)) = 0 ∧ S 24 (2 * (oa (S0 6) n + nv u b v.toNat : Nat)) = c
/-- while the arcs' edges are made; the nodes' -/
def pr1 (S0 S : Nat → Int → Int) (u b : Int) (k : Nat) : Prop := eqx [21, 22, 23, 24, 27, 28, 29] S0 S ∧ S 28 0 = 2 * u + 1 ∧ S 29 0 = 2 * b ∧ PE S (oa (S0 6) k) ∧ A1z S0 S k
def pr2 (S0 S : Nat → Int → Int) (u b c : Int) (m : Nat) : Prop := eqx [21, 22, 23, 24, 27, 28, 29] S0 S ∧ S 28 0 = 2 * u + 1 ∧ S 29 0 = 2 * b ∧ PE S (oa (S0 6) (S0 1 0).toNat + nv u b m) ∧ A1z S0 S (S0 1 0).toNat ∧ A2z S0 S u b c (S0 1 0).toNat m
theorem eqx_adE {S0 S : Nat → Int → Int} {g z1 z2 z3 z4 : Int} (h : eqx [21, 22, 23, 24, 27, 28, 29] S0 S) : eqx [21, 22, 23, 24, 27, 28, 29] S0 (adE S g z1 z2 z3 z4) := fun k hk => by
  rw [adE_eqx k (by simp at hk ⊢; omega)]
  exact h k hk
theorem pr1_skip {S0 S : Nat → Int → Int} {u b : Int} {k : Nat} (h : pr1 S0 S u b k) (hs : S0 6 k ≠ 0) : pr1 S0 S u b (k + 1) := by
  obtain ⟨a1, a2, a3, a4, a5⟩ := h
  refine ⟨a1, a2, a3, by simp only [oa]; rw [if_neg hs]; exact a4, fun j j0 j1 js => a5 j j0 ?_ js⟩
  by_cases e : j = k
  · subst e; exact absurd js hs
  · omega
theorem pr1_add {S0 S : Nat → Int → Int} {u b : Int} {k : Nat} (h : pr1 S0 S u b k) (hs : S0 6 k = 0) (h1 : 0 ≤ S0 2 k ∧ S0 2 k < 8) (h2 : 0 ≤ S0 3 k ∧ S0 3 k < 8) (h3 : 0 ≤ S0 4 k ∧ S0 4 k ≤ 1000) : pr1 S0 (adE S (2 * oa (S0 6) k : Nat) (2 * S0 2 k + 1) (2 * S0 3 k) (S0 4 k) 1) u b (k + 1) := by
  obtain ⟨a1, a2, a3, a4, a5⟩ := h
  obtain ⟨b1, b2, b3, b4, -⟩ := adE_g (S := S) (g := (2 * oa (S0 6) k : Nat)) (z1 := 2 * S0 2 k + 1) (z2 := 2 * S0 3 k) (z3 := S0 4 k) (z4 := 1)
  refine ⟨eqx_adE a1, by rw [adE_eqx 28 (by decide)]; exact a2, by rw [adE_eqx 29 (by decide)]; exact a3, ?_, fun j j0 j1 js => ?_⟩
  · simp only [oa]; rw [if_pos hs]
    exact PE_s a4 (by omega) (by omega) (by omega) h3 (by omega)
  · by_cases e : j = k
    · have e1 : (2 * (oa (S0 6) j.toNat : Nat) : Int) = (2 * oa (S0 6) k : Nat) := by rw [e, Int.toNat_natCast]; omega
      rw [e1, b1, b2, b3, b4, e]
      exact ⟨rfl, rfl, rfl, rfl⟩
    · have hl := oa_lt (Sh := S0 6) (i := j.toNat) (j := k) (by omega) (by rw [Int.toNat_of_nonneg j0]; exact js)
      rw [adE_old (by omega) (by decide), adE_old (by omega) (by decide), adE_old (by omega) (by decide), adE_old (by omega) (by decide)]
      exact a5 j j0 (by omega) js
theorem pr2_0 {S0 S : Nat → Int → Int} {u b c : Int} (h : pr1 S0 S u b (S0 1 0).toNat) : pr2 S0 S u b c 0 := ⟨h.1, h.2.1, h.2.2.1, h.2.2.2.1, h.2.2.2.2, fun v v0 v1 => by omega⟩
theorem pr2_skip {S0 S : Nat → Int → Int} {u b c : Int} {m : Nat} (h : pr2 S0 S u b c m) (hs : (m : Int) = u ∨ (m : Int) = b) : pr2 S0 S u b c (m + 1) := by
  obtain ⟨a1, a2, a3, a4, a5, a6⟩ := h
  refine ⟨a1, a2, a3, by simp only [nv]; rw [if_pos hs]; exact a4, a5, fun v v0 v1 vu vb => a6 v v0 ?_ vu vb⟩
  by_cases e : v = m
  · omega
  · omega
theorem pr2_add {S0 S : Nat → Int → Int} {u b c : Int} {m : Nat} (h : pr2 S0 S u b c m) (hs : ¬ ((m : Int) = u ∨ (m : Int) = b)) (hm : m < 8) (hc : 0 ≤ c ∧ c ≤ 20) : pr2 S0 (adE S (2 * (oa (S0 6) (S0 1 0).toNat + nv u b m) : Nat) (2 * (m : Int)) (2 * (m : Int) + 1) 0 c) u b c (m + 1) := by
  obtain ⟨a1, a2, a3, a4, a5, a6⟩ := h
  obtain ⟨b1, b2, b3, b4, -⟩ := adE_g (S := S) (g := (2 * (oa (S0 6) (S0 1 0).toNat + nv u b m) : Nat)) (z1 := 2 * (m : Int)) (z2 := 2 * (m : Int) + 1) (z3 := 0) (z4 := c)
  refine ⟨eqx_adE a1, by rw [adE_eqx 28 (by decide)]; exact a2, by rw [adE_eqx 29 (by decide)]; exact a3, ?_, fun j j0 j1 js => ?_, fun v v0 v1 vu vb => ?_⟩
  · simp only [nv]; rw [if_neg hs, ← Nat.add_assoc]
    exact PE_s a4 (by omega) (by omega) (by omega) (by omega) hc
  · have hl := oa_lt (Sh := S0 6) (i := j.toNat) (j := (S0 1 0).toNat) (by omega) (by rw [Int.toNat_of_nonneg j0]; exact js)
    rw [adE_old (by omega) (by decide), adE_old (by omega) (by decide), adE_old (by omega) (by decide), adE_old (by omega) (by decide)]
    exact a5 j j0 j1 js
  · by_cases e : v = m
    · have e1 : (2 * (oa (S0 6) (S0 1 0).toNat + nv u b v.toNat : Nat) : Int) = (2 * (oa (S0 6) (S0 1 0).toNat + nv u b m) : Nat) := by rw [e, Int.toNat_natCast]; omega
      rw [e1, b1, b2, b3, b4, e]
      exact ⟨rfl, rfl, rfl, rfl⟩
    · have hl := nv_lt (a := u) (b := b) (i := v.toNat) (j := m) (by omega) (by rw [Int.toNat_of_nonneg v0]; omega)
      rw [adE_old (by omega) (by decide), adE_old (by omega) (by decide), adE_old (by omega) (by decide), adE_old (by omega) (by decide)]
      exact a6 v v0 (by omega) vu vb
theorem pr2_end {S0 S : Nat → Int → Int} {u b c : Int} (hG : GIs S0) (hu : 0 ≤ u ∧ u < S0 0 0) (hb : 0 ≤ b ∧ b < S0 0 0) (hc : 0 ≤ c ∧ c ≤ 20) (h : pr2 S0 S u b c (S0 0 0).toNat) : FJ S u b c 0 0 := by
  obtain ⟨a1, a2, a3, a4, a5, a6⟩ := h
  have g : ∀ k, k < 16 → S k = S0 k := fun k hk => a1 k (by simp; omega)
  have ho := oa_le (Sh := S0 6) (S0 1 0).toNat
  have hn := nv_le (a := u) (b := b) (S0 0 0).toNat
  have hg0 := hG.1
  have hg1 := hG.2.1
  have hpa : pa (oa (S0 6) (S0 1 0).toNat + nv u b (S0 0 0).toNat) (S 21) (S 22) (S 23) := fun j j0 j1 => ⟨(a4.2 j j0 j1).1, (a4.2 j j0 j1).2.1, (a4.2 j j0 j1).2.2.1⟩
  have hz : ∀ w : Int → Int, gs (oa (S0 6) (S0 1 0).toNat + nv u b (S0 0 0).toNat) (S 24) w = 0 := fun w => by
    unfold gs
    refine Eq.trans (sm_congr (g := fun _ => 0) _ (fun j j0 j1 => ?_)) (sm_zero _)
    rw [(a4.2 j j0 j1).2.2.2.1, Int.zero_mul]
  unfold FJ FIz Mz
  rw [g 0 (by decide), g 1 (by decide), g 2 (by decide), g 3 (by decide), g 4 (by decide), g 6 (by decide)]
  refine ⟨⟨⟨fun k k0 k1 so => ⟨(a5 k k0 k1 so).1, (a5 k k0 k1 so).2.1, (a5 k k0 k1 so).2.2.1⟩, fun v v0 v1 va vb => ⟨(a6 v v0 v1 va vb).1, (a6 v v0 v1 va vb).2.1, (a6 v v0 v1 va vb).2.2.1⟩, hpa⟩, fun x x0 x1 => ?_, ⟨fun k k0 k1 so => ?_, fun v v0 v1 va vb => ?_⟩, fun w => by rw [hz]; simp, hz _, fun _ => 0, by omega, fun x x0 x1 => ?_, fun x x0 x1 hx => ?_⟩, a4.1, a2, a3, fun j j0 j1 => ?_⟩
  · have hj := a4.2 (x / 2) (by omega) (by omega)
    rcases (show x = 2 * (x / 2) ∨ x = 2 * (x / 2) + 1 by omega) with e | e
    · rw [e]; omega
    · rw [e, hj.2.2.2.1]; omega
  · rw [(a5 k k0 k1 so).2.2.2, (a4.2 _ (by omega) (ja_in (a := u) (b := b) k0 k1 so)).2.2.2.1]; rfl
  · rw [(a6 v v0 v1 va vb).2.2.2, (a4.2 _ (by omega) (jn_in v0 v1 va vb)).2.2.2.1]; omega
  · have hj := a4.2 (x / 2) (by omega) (by omega)
    rcases (show x = 2 * (x / 2) ∨ x = 2 * (x / 2) + 1 by omega) with e | e
    · rw [e]; omega
    · rw [e, hj.1, hj.2.1, hj.2.2.1]; omega
  · have hj := a4.2 (x / 2) (by omega) (by omega)
    rcases (show x = 2 * (x / 2) ∨ x = 2 * (x / 2) + 1 by omega) with e | e
    · show (0 : Int) ≤ S 23 x + 0
      rw [e]; omega
    · rw [e, hj.2.2.2.1] at hx; omega
  · have hj := a4.2 j j0 j1
    omega

set_option maxRecDepth 100000 in
set_option maxHeartbeats 4000000 in
theorem lo_F_prep2 {l : Launch} {D : va_G} {a : Nat → Nat} {ki kz kl kq : ClassId} {p : Program} {e : Env} {s : State} {m : MethodId} {args : Array Value} {below : List Frame} {meth : Method} {c : Code} {S0 : Nat → Int → Int} {u b by_ : Int} (hG : GIs S0) (hu : 0 ≤ u ∧ u < S0 0 0) (hb : 0 ≤ b ∧ b < S0 0 0) (hby : by_ = 0 ∨ by_ = 1) (C : CX p s m args c b_F_prepare 5 "NextPaths$Flow" TT D cls (tyz ki kz kl kq)) (hr : meth.sig.returnType = none) (hk : meth.locks = false) : ∀ (j k : Nat) (S : Nat → Int → Int), k ≤ (S0 0 0).toNat → (S0 0 0).toNat ≤ k + j → pr2 S0 S u b (if by_ = 1 then 1 else 20) k → GG p l e rm_F_prepare s m args below meth c D cls (adr (wX a ki kz kl kq S0)) 5 0 0 (MQ below (QcW D cls (wX a ki kz kl kq) S0 (pV fun S' => eqx [21, 22, 23, 24, 27, 28, 29] S0 S' ∧ FJ S' u b (if by_ = 1 then 1 else 20) 0 0)) args s 0 0 (adr (wX a ki kz kl kq S0))) (wX a ki kz kl kq) S [(4, .int (iI (k : Int))), (0, .ref (a 27)), (1, .int (iI u)), (2, .int (iI b)), (3, .int (iI by_))] 99 [] := by
  intro j
  induction j with
  | zero =>
    intro k S hk1 hk2 hI
    have e0 : S 0 0 = S0 0 0 := by rw [hI.1 0 (by decide)]
    have hn8 := hG.1
    have hn20 := hG.2.1
    have ho := oa_le (Sh := S0 6) (S0 1 0).toNat
    have hnv := nv_le (a := u) (b := b) k
    refine g_iload C d_F_prepare_99 rfl rfl ?_
    refine g_aload_n C d_F_prepare_101 rfl rfl ?_
    refine g_get C 27 0 i_F wX_27 rfl (by decide) k_F_30 rfl rfl d_F_prepare_102 rfl ?_
    refine g_getN C 1 0 i_G wX_1 rfl (by decide) k_F_73 rfl rfl d_F_prepare_105 rfl ?_
    refine g_v (z' := (S0 0 0)) e0 ?_
    refine g_icmp_ge (tgt := 154) C d_F_prepare_108 (by decide) rfl (by omega) (by omega) (fun h108 => ?_) (fun h108 => ?_)
    · refine g_vret C hr hk d_F_prepare_154 ⟨rfl, ?_⟩
      have hk : k = (S0 0 0).toNat := by omega
      subst hk
      exact ⟨hI.1, pr2_end hG hu hb (by split <;> omega) hI⟩
    · exact absurd h108 (by omega)
  | succ j ih =>
    intro k S hk1 hk2 hI
    have e0 : S 0 0 = S0 0 0 := by rw [hI.1 0 (by decide)]
    have hn8 := hG.1
    have hn20 := hG.2.1
    have ho := oa_le (Sh := S0 6) (S0 1 0).toNat
    have hnv := nv_le (a := u) (b := b) k
    refine g_iload C d_F_prepare_99 rfl rfl ?_
    refine g_aload_n C d_F_prepare_101 rfl rfl ?_
    refine g_get C 27 0 i_F wX_27 rfl (by decide) k_F_30 rfl rfl d_F_prepare_102 rfl ?_
    refine g_getN C 1 0 i_G wX_1 rfl (by decide) k_F_73 rfl rfl d_F_prepare_105 rfl ?_
    refine g_v (z' := (S0 0 0)) e0 ?_
    refine g_icmp_ge (tgt := 154) C d_F_prepare_108 (by decide) rfl (by omega) (by omega) (fun h108 => ?_) (fun h108 => ?_)
    · refine g_vret C hr hk d_F_prepare_154 ⟨rfl, ?_⟩
      have hk : k = (S0 0 0).toNat := by omega
      subst hk
      exact ⟨hI.1, pr2_end hG hu hb (by split <;> omega) hI⟩
    · refine g_iload C d_F_prepare_111 rfl rfl ?_
      refine g_iload_n C d_F_prepare_113 rfl rfl ?_
      refine g_icmp_eq (tgt := 148) C d_F_prepare_114 (by decide) rfl (by omega) (by omega) (fun h114 => ?_) (fun h114 => ?_)
      · obtain ⟨k2, e_k2⟩ : ∃ z : Int, z = (k : Int) + 1 := ⟨_, rfl⟩
        refine g_iinc (q := 0) (z := k2) (lv' := [(4, .int (iI k2)), (0, .ref (a 27)), (1, .int (iI u)), (2, .int (iI b)), (3, .int (iI by_))]) C d_F_prepare_148 rfl e_k2.symm (by decide) rfl rfl ?_
        refine g_goto (tgt := 99) C d_F_prepare_151 (by decide) ?_
        refine GG.lvs (lv' := [(4, .int (iI ((k + 1 : Nat) : Int))), (0, .ref (a 27)), (1, .int (iI u)), (2, .int (iI b)), (3, .int (iI by_))]) (by rw [show k2 = ((k + 1 : Nat) : Int) by omega]; simp [lk]) ?_
        first
          | exact ih (k + 1) _ (by omega) (by omega) (pr2_skip hI (by omega))
          | (refine ih (k + 1) _ (by omega) (by omega) ?_
             have q := pr2_add hI (by omega) (by omega) (by split <;> omega)
             subst hp3
             first
               | (rw [if_pos (show by_ = 1 by omega)] at q ⊢; exact q)
               | (rw [if_neg (show ¬ by_ = 1 by omega)] at q ⊢; exact q))
      · refine g_iload C d_F_prepare_117 rfl rfl ?_
        refine g_iload_n C d_F_prepare_119 rfl rfl ?_
        refine g_icmp_eq (tgt := 148) C d_F_prepare_120 (by decide) rfl (by omega) (by omega) (fun h120 => ?_) (fun h120 => ?_)
        · obtain ⟨k2, e_k2⟩ : ∃ z : Int, z = (k : Int) + 1 := ⟨_, rfl⟩
          refine g_iinc (q := 0) (z := k2) (lv' := [(4, .int (iI k2)), (0, .ref (a 27)), (1, .int (iI u)), (2, .int (iI b)), (3, .int (iI by_))]) C d_F_prepare_148 rfl e_k2.symm (by decide) rfl rfl ?_
          refine g_goto (tgt := 99) C d_F_prepare_151 (by decide) ?_
          refine GG.lvs (lv' := [(4, .int (iI ((k + 1 : Nat) : Int))), (0, .ref (a 27)), (1, .int (iI u)), (2, .int (iI b)), (3, .int (iI by_))]) (by rw [show k2 = ((k + 1 : Nat) : Int) by omega]; simp [lk]) ?_
          first
            | exact ih (k + 1) _ (by omega) (by omega) (pr2_skip hI (by omega))
            | (refine ih (k + 1) _ (by omega) (by omega) ?_
               have q := pr2_add hI (by omega) (by omega) (by split <;> omega)
               subst hp3
               first
                 | (rw [if_pos (show by_ = 1 by omega)] at q ⊢; exact q)
                 | (rw [if_neg (show ¬ by_ = 1 by omega)] at q ⊢; exact q))
        · refine g_aload_n C d_F_prepare_123 rfl rfl ?_
          refine g_iload C d_F_prepare_124 rfl rfl ?_
          refine g_runI (wX_fix a ki kz kl kq) rfl (rn_S C (m_F_entry) 1 kc_F_entry k_F_45 ks_F_entry kn_F hy_F_entry ⟨rfl, rfl⟩ ⟨by decide, by decide⟩ ⟨Nat.le_refl _, Nat.le_refl _⟩ rfl rfl (Nat.le_of_ble_eq_true rfl) d_F_prepare_126) (fun r1 S1 hp1 => ?_)
          obtain ⟨hS1, rfl⟩ := hp1
          refine GG.at hS1 ?_
          refine g_iload C d_F_prepare_129 rfl rfl ?_
          refine g_runI (wX_fix a ki kz kl kq) rfl (rn_S C (m_F_exit) 1 kc_F_exit k_F_38 ks_F_exit kn_F hy_F_exit ⟨rfl, rfl⟩ ⟨by decide, by decide⟩ ⟨Nat.le_refl _, Nat.le_refl _⟩ rfl rfl (Nat.le_of_ble_eq_true rfl) d_F_prepare_131) (fun r2 S2 hp2 => ?_)
          obtain ⟨hS2, rfl⟩ := hp2
          refine GG.at hS2 ?_
          refine g_iconst (z := 0) C d_F_prepare_134 rfl rfl ?_
          refine g_iload_n C d_F_prepare_135 rfl rfl ?_
          refine g_if_eq (tgt := 143) C d_F_prepare_136 (by decide) rfl (by omega) (fun h136 => ?_) (fun h136 => ?_)
          · refine g_bipush (z := 20) C d_F_prepare_143 rfl (by decide) ?_
            refine g_runV (wX_fix a ki kz kl kq) rfl (rn_V C (m_F_addEdge (g := (2 * (oa (S0 6) (S0 1 0).toNat + nv u b k) : Nat)) hI.2.2.2.1.1 (by omega)) 27 4 wX_27 rfl rfl kc_F_addEdge k_F_69 ki_F_addEdge kx_F_addEdge kn_F hy_F_addEdge ⟨rfl, rfl⟩ ⟨by decide, by decide⟩ ⟨Nat.le_refl _, Nat.le_refl _⟩ rfl rfl (Nat.le_of_ble_eq_true rfl) d_F_prepare_145) (fun S3 hp3 => ?_)
            obtain ⟨k2, e_k2⟩ : ∃ z : Int, z = (k : Int) + 1 := ⟨_, rfl⟩
            refine g_iinc (q := 0) (z := k2) (lv' := [(4, .int (iI k2)), (0, .ref (a 27)), (1, .int (iI u)), (2, .int (iI b)), (3, .int (iI by_))]) C d_F_prepare_148 rfl e_k2.symm (by decide) rfl rfl ?_
            refine g_goto (tgt := 99) C d_F_prepare_151 (by decide) ?_
            refine GG.lvs (lv' := [(4, .int (iI ((k + 1 : Nat) : Int))), (0, .ref (a 27)), (1, .int (iI u)), (2, .int (iI b)), (3, .int (iI by_))]) (by rw [show k2 = ((k + 1 : Nat) : Int) by omega]; simp [lk]) ?_
            first
              | exact ih (k + 1) _ (by omega) (by omega) (pr2_skip hI (by omega))
              | (refine ih (k + 1) _ (by omega) (by omega) ?_
                 have q := pr2_add hI (by omega) (by omega) (by split <;> omega)
                 subst hp3
                 first
                   | (rw [if_pos (show by_ = 1 by omega)] at q ⊢; exact q)
                   | (rw [if_neg (show ¬ by_ = 1 by omega)] at q ⊢; exact q))
          · refine g_iconst (z := 1) C d_F_prepare_139 rfl rfl ?_
            refine g_goto (tgt := 145) C d_F_prepare_140 (by decide) ?_
            refine g_runV (wX_fix a ki kz kl kq) rfl (rn_V C (m_F_addEdge (g := (2 * (oa (S0 6) (S0 1 0).toNat + nv u b k) : Nat)) hI.2.2.2.1.1 (by omega)) 27 4 wX_27 rfl rfl kc_F_addEdge k_F_69 ki_F_addEdge kx_F_addEdge kn_F hy_F_addEdge ⟨rfl, rfl⟩ ⟨by decide, by decide⟩ ⟨Nat.le_refl _, Nat.le_refl _⟩ rfl rfl (Nat.le_of_ble_eq_true rfl) d_F_prepare_145) (fun S3 hp3 => ?_)
            obtain ⟨k2, e_k2⟩ : ∃ z : Int, z = (k : Int) + 1 := ⟨_, rfl⟩
            refine g_iinc (q := 0) (z := k2) (lv' := [(4, .int (iI k2)), (0, .ref (a 27)), (1, .int (iI u)), (2, .int (iI b)), (3, .int (iI by_))]) C d_F_prepare_148 rfl e_k2.symm (by decide) rfl rfl ?_
            refine g_goto (tgt := 99) C d_F_prepare_151 (by decide) ?_
            refine GG.lvs (lv' := [(4, .int (iI ((k + 1 : Nat) : Int))), (0, .ref (a 27)), (1, .int (iI u)), (2, .int (iI b)), (3, .int (iI by_))]) (by rw [show k2 = ((k + 1 : Nat) : Int) by omega]; simp [lk]) ?_
            first
              | exact ih (k + 1) _ (by omega) (by omega) (pr2_skip hI (by omega))
              | (refine ih (k + 1) _ (by omega) (by omega) ?_
                 have q := pr2_add hI (by omega) (by omega) (by split <;> omega)
                 subst hp3
                 first
                   | (rw [if_pos (show by_ = 1 by omega)] at q ⊢; exact q)
                   | (rw [if_neg (show ¬ by_ = 1 by omega)] at q ⊢; exact q))

set_option maxRecDepth 100000 in
set_option maxHeartbeats 4000000 in
theorem lo_F_prep1 {l : Launch} {D : va_G} {a : Nat → Nat} {ki kz kl kq : ClassId} {p : Program} {e : Env} {s : State} {m : MethodId} {args : Array Value} {below : List Frame} {meth : Method} {c : Code} {S0 : Nat → Int → Int} {u b by_ : Int} (hG : GIs S0) (hu : 0 ≤ u ∧ u < S0 0 0) (hb : 0 ≤ b ∧ b < S0 0 0) (hby : by_ = 0 ∨ by_ = 1) (C : CX p s m args c b_F_prepare 5 "NextPaths$Flow" TT D cls (tyz ki kz kl kq)) (hr : meth.sig.returnType = none) (hk : meth.locks = false) : ∀ (j k : Nat) (S : Nat → Int → Int), k ≤ (S0 1 0).toNat → (S0 1 0).toNat ≤ k + j → pr1 S0 S u b k → GG p l e rm_F_prepare s m args below meth c D cls (adr (wX a ki kz kl kq S0)) 5 0 0 (MQ below (QcW D cls (wX a ki kz kl kq) S0 (pV fun S' => eqx [21, 22, 23, 24, 27, 28, 29] S0 S' ∧ FJ S' u b (if by_ = 1 then 1 else 20) 0 0)) args s 0 0 (adr (wX a ki kz kl kq S0))) (wX a ki kz kl kq) S [(4, .int (iI (k : Int))), (0, .ref (a 27)), (1, .int (iI u)), (2, .int (iI b)), (3, .int (iI by_))] 24 [] := by
  intro j
  induction j with
  | zero =>
    intro k S hk1 hk2 hI
    have e1 : S 1 0 = S0 1 0 := by rw [hI.1 1 (by decide)]
    have hn8 := hG.1
    have hn20 := hG.2.1
    have ho := oa_le (Sh := S0 6) k
    have hok := hG.2.2.1.2.2.1 k
    have e6 : S 6 k = S0 6 k := by rw [hI.1 6 (by decide)]
    have e2 : S 2 k = S0 2 k := by rw [hI.1 2 (by decide)]
    have e3 : S 3 k = S0 3 k := by rw [hI.1 3 (by decide)]
    have e4 : S 4 k = S0 4 k := by rw [hI.1 4 (by decide)]
    refine g_iload C d_F_prepare_24 rfl rfl ?_
    refine g_aload_n C d_F_prepare_26 rfl rfl ?_
    refine g_get C 27 0 i_F wX_27 rfl (by decide) k_F_30 rfl rfl d_F_prepare_27 rfl ?_
    refine g_getN C 1 1 i_G wX_1 rfl (by decide) k_F_51 rfl rfl d_F_prepare_30 rfl ?_
    refine g_v (z' := (S0 1 0)) e1 ?_
    refine g_icmp_ge (tgt := 96) C d_F_prepare_33 (by decide) rfl (by omega) (by omega) (fun h33 => ?_) (fun h33 => ?_)
    · refine g_iconst (z := 0) C d_F_prepare_96 rfl rfl ?_
      refine g_nm (fun k0 e_k0 => ?_)
      refine g_istore (lv' := [(4, .int (iI k0)), (0, .ref (a 27)), (1, .int (iI u)), (2, .int (iI b)), (3, .int (iI by_))]) C d_F_prepare_97 (by decide) rfl rfl ?_
      have hkk : k = (S0 1 0).toNat := by omega
      subst hkk
      subst e_k0
      refine GG.lvs (lv' := [(4, .int (iI ((0 : Nat) : Int))), (0, .ref (a 27)), (1, .int (iI u)), (2, .int (iI b)), (3, .int (iI by_))]) (by simp [lk]) ?_
      exact lo_F_prep2 hG hu hb hby C hr hk _ 0 S (by omega) (Nat.le_add_left _ _) (pr2_0 hI)
    · exact absurd h33 (by omega)
  | succ j ih =>
    intro k S hk1 hk2 hI
    have e1 : S 1 0 = S0 1 0 := by rw [hI.1 1 (by decide)]
    have hn8 := hG.1
    have hn20 := hG.2.1
    have ho := oa_le (Sh := S0 6) k
    have hok := hG.2.2.1.2.2.1 k
    have e6 : S 6 k = S0 6 k := by rw [hI.1 6 (by decide)]
    have e2 : S 2 k = S0 2 k := by rw [hI.1 2 (by decide)]
    have e3 : S 3 k = S0 3 k := by rw [hI.1 3 (by decide)]
    have e4 : S 4 k = S0 4 k := by rw [hI.1 4 (by decide)]
    refine g_iload C d_F_prepare_24 rfl rfl ?_
    refine g_aload_n C d_F_prepare_26 rfl rfl ?_
    refine g_get C 27 0 i_F wX_27 rfl (by decide) k_F_30 rfl rfl d_F_prepare_27 rfl ?_
    refine g_getN C 1 1 i_G wX_1 rfl (by decide) k_F_51 rfl rfl d_F_prepare_30 rfl ?_
    refine g_v (z' := (S0 1 0)) e1 ?_
    refine g_icmp_ge (tgt := 96) C d_F_prepare_33 (by decide) rfl (by omega) (by omega) (fun h33 => ?_) (fun h33 => ?_)
    · refine g_iconst (z := 0) C d_F_prepare_96 rfl rfl ?_
      refine g_nm (fun k0 e_k0 => ?_)
      refine g_istore (lv' := [(4, .int (iI k0)), (0, .ref (a 27)), (1, .int (iI u)), (2, .int (iI b)), (3, .int (iI by_))]) C d_F_prepare_97 (by decide) rfl rfl ?_
      have hkk : k = (S0 1 0).toNat := by omega
      subst hkk
      subst e_k0
      refine GG.lvs (lv' := [(4, .int (iI ((0 : Nat) : Int))), (0, .ref (a 27)), (1, .int (iI u)), (2, .int (iI b)), (3, .int (iI by_))]) (by simp [lk]) ?_
      exact lo_F_prep2 hG hu hb hby C hr hk _ 0 S (by omega) (Nat.le_add_left _ _) (pr2_0 hI)
    · refine g_aload_n C d_F_prepare_36 rfl rfl ?_
      refine g_get C 27 0 i_F wX_27 rfl (by decide) k_F_30 rfl rfl d_F_prepare_37 rfl ?_
      refine g_getN C 1 6 i_G wX_1 rfl (by decide) k_F_56 rfl rfl d_F_prepare_40 rfl ?_
      refine g_iload C d_F_prepare_43 rfl rfl ?_
      refine g_zald C 6 1 wX_6 rfl (by omega) (by omega) (by decide) d_F_prepare_45 rfl ?_
      refine g_v (z' := (S0 6 k)) e6 ?_
      refine g_if_ne (tgt := 90) C d_F_prepare_46 (by decide) rfl (by omega) (fun h46 => ?_) (fun h46 => ?_)
      · obtain ⟨k2, e_k2⟩ : ∃ z : Int, z = (k : Int) + 1 := ⟨_, rfl⟩
        refine g_iinc (q := 0) (z := k2) (lv' := [(4, .int (iI k2)), (0, .ref (a 27)), (1, .int (iI u)), (2, .int (iI b)), (3, .int (iI by_))]) C d_F_prepare_90 rfl e_k2.symm (by decide) rfl rfl ?_
        refine g_goto (tgt := 24) C d_F_prepare_93 (by decide) ?_
        refine GG.lvs (lv' := [(4, .int (iI ((k + 1 : Nat) : Int))), (0, .ref (a 27)), (1, .int (iI u)), (2, .int (iI b)), (3, .int (iI by_))]) (by rw [show k2 = ((k + 1 : Nat) : Int) by omega]; simp [lk]) ?_
        first
          | exact ih (k + 1) _ (by omega) (by omega) (pr1_skip hI (by omega))
          | (subst hp3; exact ih (k + 1) _ (by omega) (by omega) (pr1_add hI (by omega) (by omega) (by omega) (by omega)))
      · refine g_aload_n C d_F_prepare_49 rfl rfl ?_
        refine g_aload_n C d_F_prepare_50 rfl rfl ?_
        refine g_get C 27 0 i_F wX_27 rfl (by decide) k_F_30 rfl rfl d_F_prepare_51 rfl ?_
        refine g_getN C 1 2 i_G wX_1 rfl (by decide) k_F_60 rfl rfl d_F_prepare_54 rfl ?_
        refine g_iload C d_F_prepare_57 rfl rfl ?_
        refine g_iald C 2 0 wX_2 rfl (by omega) (by omega) (by decide) d_F_prepare_59 rfl ?_
        refine g_v (z' := (S0 2 k)) e2 ?_
        refine g_runI (wX_fix a ki kz kl kq) rfl (rn_S C (m_F_exit) 1 kc_F_exit k_F_38 ks_F_exit kn_F hy_F_exit ⟨rfl, rfl⟩ ⟨by decide, by decide⟩ ⟨Nat.le_refl _, Nat.le_refl _⟩ rfl rfl (Nat.le_of_ble_eq_true rfl) d_F_prepare_60) (fun r2 S2 hp2 => ?_)
        obtain ⟨hS2, rfl⟩ := hp2
        refine GG.at hS2 ?_
        refine g_aload_n C d_F_prepare_63 rfl rfl ?_
        refine g_get C 27 0 i_F wX_27 rfl (by decide) k_F_30 rfl rfl d_F_prepare_64 rfl ?_
        refine g_getN C 1 3 i_G wX_1 rfl (by decide) k_F_63 rfl rfl d_F_prepare_67 rfl ?_
        refine g_iload C d_F_prepare_70 rfl rfl ?_
        refine g_iald C 3 0 wX_3 rfl (by omega) (by omega) (by decide) d_F_prepare_72 rfl ?_
        refine g_v (z' := (S0 3 k)) e3 ?_
        refine g_runI (wX_fix a ki kz kl kq) rfl (rn_S C (m_F_entry) 1 kc_F_entry k_F_45 ks_F_entry kn_F hy_F_entry ⟨rfl, rfl⟩ ⟨by decide, by decide⟩ ⟨Nat.le_refl _, Nat.le_refl _⟩ rfl rfl (Nat.le_of_ble_eq_true rfl) d_F_prepare_73) (fun r1 S1 hp1 => ?_)
        obtain ⟨hS1, rfl⟩ := hp1
        refine GG.at hS1 ?_
        refine g_aload_n C d_F_prepare_76 rfl rfl ?_
        refine g_get C 27 0 i_F wX_27 rfl (by decide) k_F_30 rfl rfl d_F_prepare_77 rfl ?_
        refine g_getN C 1 4 i_G wX_1 rfl (by decide) k_F_66 rfl rfl d_F_prepare_80 rfl ?_
        refine g_iload C d_F_prepare_83 rfl rfl ?_
        refine g_iald C 4 0 wX_4 rfl (by omega) (by omega) (by decide) d_F_prepare_85 rfl ?_
        refine g_v (z' := (S0 4 k)) e4 ?_
        refine g_iconst (z := 1) C d_F_prepare_86 rfl rfl ?_
        refine g_runV (wX_fix a ki kz kl kq) rfl (rn_V C (m_F_addEdge (g := (2 * oa (S0 6) k : Nat)) hI.2.2.2.1.1 (by omega)) 27 4 wX_27 rfl rfl kc_F_addEdge k_F_69 ki_F_addEdge kx_F_addEdge kn_F hy_F_addEdge ⟨rfl, rfl⟩ ⟨by decide, by decide⟩ ⟨Nat.le_refl _, Nat.le_refl _⟩ rfl rfl (Nat.le_of_ble_eq_true rfl) d_F_prepare_87) (fun S3 hp3 => ?_)
        obtain ⟨k2, e_k2⟩ : ∃ z : Int, z = (k : Int) + 1 := ⟨_, rfl⟩
        refine g_iinc (q := 0) (z := k2) (lv' := [(4, .int (iI k2)), (0, .ref (a 27)), (1, .int (iI u)), (2, .int (iI b)), (3, .int (iI by_))]) C d_F_prepare_90 rfl e_k2.symm (by decide) rfl rfl ?_
        refine g_goto (tgt := 24) C d_F_prepare_93 (by decide) ?_
        refine GG.lvs (lv' := [(4, .int (iI ((k + 1 : Nat) : Int))), (0, .ref (a 27)), (1, .int (iI u)), (2, .int (iI b)), (3, .int (iI by_))]) (by rw [show k2 = ((k + 1 : Nat) : Int) by omega]; simp [lk]) ?_
        first
          | exact ih (k + 1) _ (by omega) (by omega) (pr1_skip hI (by omega))
          | (subst hp3; exact ih (k + 1) _ (by omega) (by omega) (pr1_add hI (by omega) (by omega) (by omega) (by omega)))

set_option maxRecDepth 100000 in
set_option maxHeartbeats 4000000 in
theorem m_F_prepare {l : Launch} {D : va_G} {a : Nat → Nat} {ki kz kl kq : ClassId} {S : Nat → Int → Int}  {u b by_ : Int} (hG : GIs S) (hu : 0 ≤ u ∧ u < S 0 0) (hb : 0 ≤ b ∧ b < S 0 0) (hby : by_ = 0 ∨ by_ = 1) : MX l D a ki kz kl kq y_F_prepare b_F_prepare 5 none rm_F_prepare [.ref (a 27), .int (iI u), .int (iI b), .int (iI by_)] S (pV fun S' => eqx [21, 22, 23, 24, 27, 28, 29] S S' ∧ FJ S' u b (if by_ = 1 then 1 else 20) 0 0) := by
  refine MM.go b_F_prepare 5 none "NextPaths$Flow" [(0, .ref (a 27)), (1, .int (iI u)), (2, .int (iI b)), (3, .int (iI by_))] (by decide) rfl rfl (Nat.le_of_ble_eq_true rfl) ?_
  intro p e s m args below meth c C hr hk
  refine g_aload_n C d_F_prepare_0 rfl rfl ?_
  refine g_iconst (z := 0) C d_F_prepare_1 rfl rfl ?_
  refine g_put (ty := .int) C 27 7 ty_F i_F ty_F_ok n_F wX_27 rfl (by decide) k_F_34 rfl rfl (by decide +kernel) rfl rfl (Nat.le_of_ble_eq_true rfl) wX_p27_7 d_F_prepare_2 rfl ?_
  refine g_aload_n C d_F_prepare_5 rfl rfl ?_
  refine g_iload_n C d_F_prepare_6 rfl rfl ?_
  refine g_runI (wX_fix a ki kz kl kq) rfl (rn_S C (m_F_exit) 1 kc_F_exit k_F_38 ks_F_exit kn_F hy_F_exit ⟨rfl, rfl⟩ ⟨by decide, by decide⟩ ⟨Nat.le_refl _, Nat.le_refl _⟩ rfl rfl (Nat.le_of_ble_eq_true rfl) d_F_prepare_7) (fun r1 S1 hp1 => ?_)
  obtain ⟨hS1, rfl⟩ := hp1
  refine GG.at hS1 ?_
  refine g_put (ty := .int) C 27 8 ty_F i_F ty_F_ok n_F wX_27 rfl (by decide) k_F_42 rfl rfl (by decide +kernel) rfl rfl (Nat.le_of_ble_eq_true rfl) wX_p27_8 d_F_prepare_10 rfl ?_
  refine g_aload_n C d_F_prepare_13 rfl rfl ?_
  refine g_iload_n C d_F_prepare_14 rfl rfl ?_
  refine g_runI (wX_fix a ki kz kl kq) rfl (rn_S C (m_F_entry) 1 kc_F_entry k_F_45 ks_F_entry kn_F hy_F_entry ⟨rfl, rfl⟩ ⟨by decide, by decide⟩ ⟨Nat.le_refl _, Nat.le_refl _⟩ rfl rfl (Nat.le_of_ble_eq_true rfl) d_F_prepare_15) (fun r2 S2 hp2 => ?_)
  obtain ⟨hS2, rfl⟩ := hp2
  refine GG.at hS2 ?_
  refine g_put (ty := .int) C 27 9 ty_F i_F ty_F_ok n_F wX_27 rfl (by decide) k_F_48 rfl rfl (by decide +kernel) rfl rfl (Nat.le_of_ble_eq_true rfl) wX_p27_9 d_F_prepare_18 rfl ?_
  refine g_iconst (z := 0) C d_F_prepare_21 rfl rfl ?_
  refine g_nm (fun k0 e_k0 => ?_)
  refine g_istore (lv' := [(4, .int (iI k0)), (0, .ref (a 27)), (1, .int (iI u)), (2, .int (iI b)), (3, .int (iI by_))]) C d_F_prepare_22 (by decide) rfl rfl ?_
  subst e_k0
  refine GG.lvs (lv' := [(4, .int (iI ((0 : Nat) : Int))), (0, .ref (a 27)), (1, .int (iI u)), (2, .int (iI b)), (3, .int (iI by_))]) (by simp [lk]) ?_
  refine lo_F_prep1 hG hu hb hby C hr hk _ 0 _ (by omega) (Nat.le_add_left _ _) ⟨eqx_us (eqx_us (eqx_us eqx_rf (by simp)) (by simp)) (by simp), rfl, rfl, ⟨rfl, fun j j0 j1 => by simp [oa] at j1; omega⟩, fun j j0 j1 => by omega⟩

