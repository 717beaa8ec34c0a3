/-! the class: paths asked for -/
/-- the heap holds the paths from k on -/
def FNh (S S' : Nat → Int → Int) (u b : Int) (k : Nat) : Prop := BZ S' ∧ HPs S' ((spS S u b).length - k) ∧ ∀ v, ct (S' 16) v ((spS S u b).length - k) = ((((spS S u b).drop k).map (cd (S 4))).count v : Nat)
theorem FNh_take {S S1 S2 : Nat → Int → Int} {u b : Int} {k : Nat} (hk : k < (spS S u b).length) (h : FNh S S1 u b k) (h2 : htak S1 S2 ((spS S u b).length - (k + 1))) : FNh S S2 u b (k + 1) ∧ S1 16 0 = cd (S 4) ((spS S u b).getD k []) := by
  obtain ⟨a2, a3, a4⟩ := h
  obtain ⟨b1, b2, b3, b4, b5⟩ := h2
  have hd : (spS S u b).drop k = (spS S u b).getD k [] :: (spS S u b).drop (k + 1) := by
    rw [List.drop_eq_getElem_cons hk]
    simp [hk]
  have hl : (spS S u b).length - k = ((spS S u b).length - (k + 1)) + 1 := by omega
  have hsort : ((cd (S 4) ((spS S u b).getD k [])) :: ((spS S u b).drop (k + 1)).map (cd (S 4))).Pairwise (fun x y => x ≤ y) := by
    have h9 : ((spS S u b).drop k).Pairwise (fun P Q => cd (S 4) P ≤ cd (S 4) Q) := List.Pairwise.sublist (List.drop_sublist _ _) sp_sorted
    rw [hd] at h9
    have h8 := List.pairwise_map.mpr h9
    exact h8
  have hc : ∀ v, ct (S1 16) v ((spS S u b).length - k) = ((cd (S 4) ((spS S u b).getD k []) :: ((spS S u b).drop (k + 1)).map (cd (S 4))).count v : Nat) := fun v => by
    rw [a4 v, hd]; rfl
  have h0 := hp_first a3.2.1 hsort hc (by omega)
  refine ⟨⟨fun v v0 v1 => ?_, ⟨b2, b3, b5⟩, fun v => ?_⟩, h0⟩
  · rw [b1 18 (by decide)]; exact a2 v v0 v1
  · have q1 := b4 v
    have q2 := hc v
    rw [hl] at q2
    rw [← q1, h0, List.count_cons] at q2
    simp only [beq_iff_eq] at q2
    by_cases c : cd (S 4) ((spS S u b).getD k []) = v
    · rw [if_pos c, if_pos c] at q2; omega
    · rw [if_neg c, if_neg c] at q2; omega
theorem FNh_pre {S S1 : Nat → Int → Int} {u b : Int} {k : Nat} (hk : k < (spS S u b).length) (h : FNh S S1 u b k) (hl : (spS S u b).length ≤ 1458) : S1 17 0 = ((spS S u b).length - (k + 1) : Nat) + 1 ∧ (spS S u b).length - (k + 1) < 1458 ∧ hp (S1 16) ((spS S u b).length - (k + 1) + 1) ∧ ∀ i : Int, 0 ≤ i → i < ((spS S u b).length - (k + 1) : Nat) + 1 → r62 (S1 16 i) := by
  obtain ⟨a2, a3, a4⟩ := h
  have e : (spS S u b).length - k = ((spS S u b).length - (k + 1)) + 1 := by omega
  rw [e] at a3
  exact ⟨by rw [a3.1]; omega, by omega, a3.2.1, fun i i0 i1 => a3.2.2 i i0 (by omega)⟩
/-- a path of the list -/
theorem spS_at {S : Nat → Int → Int} {u b : Int} (hG : GIs S) (hu : 0 ≤ u ∧ u < S 0 0) {k : Nat} (hk : k < (spS S u b).length) : ok5 ((spS S u b).getD k []) ∧ vq (S 1 0).toNat (S 2) (S 3) (S 6) b u [] ((spS S u b).getD k []) ∧ ∀ j, j ∈ (spS S u b).getD k [] → j < S 1 0 := by
  have hn := hG.1
  have hn1 := hG.2.1
  have hm : (spS S u b).getD k [] ∈ spS S u b := by simp [hk]
  have hv := (sp_mem hG.2.2.1 (a := u) (b := b) (by omega) _).mp hm
  exact ⟨vq_ok5 hG.2.2.1 (by omega) hv, hv, fun j hj => by have := vq_arcs _ u [] hv j hj; omega⟩

set_option maxRecDepth 100000 in
set_option maxHeartbeats 4000000 in
theorem lo_N_next {l : Launch} {D : va_G} {a : Nat → Nat} {ki kz kl kq : ClassId} {p : Program} {e : Env} {s : State} {m : MethodId} {args : Array Value} {below : List Frame} {meth : Method} {c : Code} {S0 : Nat → Int → Int} {u v k : Int} (hG : GIs S0) (h2 : twoS S0 u v) (hk3 : 0 ≤ k ∧ k ≤ 299) (hkl : k < (spS S0 u v).length) (hl58 : (spS S0 u v).length ≤ 1458) (C : CX p s m args c b_N_next 5 "NextPaths" TT D cls (tyz ki kz kl kq)) (hr : meth.sig.returnType = (some .int)) (hk : meth.locks = false) : ∀ (j i : Nat) (S : Nat → Int → Int), i ≤ k.toNat → k.toNat ≤ i + j → (eqx [16, 17, 18, 19, 20] S0 S ∧ FNh S0 S u v i) → GG p l e rm_N_next s m args below meth c D cls (adr (wX a ki kz kl kq S0)) 5 0 0 (MQ below (QcW D cls (wX a ki kz kl kq) S0 (pI fun r S' => (¬ (twoS S0 u v ∧ 0 ≤ k ∧ k ≤ 299) ∧ r = -2 ∧ S' = S0) ∨ ((twoS S0 u v ∧ 0 ≤ k ∧ k ≤ 299) ∧ BZ S' ∧ ((((spS S0 u v).length : Int) ≤ k ∧ r = -1 ∧ eqx [16, 17, 18, 19, 20] S0 S') ∨ (k < (spS S0 u v).length ∧ r = ((spS S0 u v).getD k.toNat []).length ∧ eqx [16, 17, 18, 19, 20, 30, 31, 32, 33] S0 S' ∧ TL S' ((spS S0 u v).getD k.toNat []) (wp (S0 4) ((spS S0 u v).getD k.toNat [])) (wp (S0 5) ((spS S0 u v).getD k.toNat []))))))) args s 0 0 (adr (wX a ki kz kl kq S0))) (wX a ki kz kl kq) S [(4, .int (iI (i : Int))), (0, .ref (a 0)), (1, .int (iI u)), (2, .int (iI v)), (3, .int (iI k))] 51 [] := by
  intro j
  induction j with
  | zero =>
    intro i S hi hk0 hI
    refine g_iload C d_N_next_51 rfl rfl ?_
    refine g_iload_n C d_N_next_53 rfl rfl ?_
    refine g_icmp_ge (tgt := 71) C d_N_next_54 (by decide) rfl (by omega) (by omega) (fun h54 => ?_) (fun h54 => ?_)
    · have hik : i = k.toNat := by omega
      have hlt : i < (spS S0 u v).length := by omega
      have pp := FNh_pre hlt hI.2 hl58
      refine g_aload_n C d_N_next_71 rfl rfl ?_
      refine g_get C 0 4 i_N wX_0 rfl (by decide) k_N_44 rfl rfl d_N_next_72 rfl ?_
      refine g_aload_n C d_N_next_75 rfl rfl ?_
      refine g_get C 0 0 i_N wX_0 rfl (by decide) k_N_12 rfl rfl d_N_next_76 rfl ?_
      refine g_aload_n C d_N_next_79 rfl rfl ?_
      refine g_get C 0 1 i_N wX_0 rfl (by decide) k_N_19 rfl rfl d_N_next_80 rfl ?_
      refine g_runL (wX_fix a ki kz kl kq) rfl (rn_VN C (m_H_takeFirst (n := (spS S0 u v).length - (i + 1)) pp.1 pp.2.1 pp.2.2.1 pp.2.2.2) 17 0 wX_17 rfl rfl kc_H_takeFirst k_N_105 ki_H_takeFirst kx_H_takeFirst kn_H hy_H_takeFirst ⟨rfl, rfl⟩ ⟨by decide, by decide⟩ ⟨Nat.le_refl _, Nat.le_refl _⟩ rfl rfl (Nat.le_of_ble_eq_true rfl) d_N_next_83) (fun r5 S5 hp5 => ?_)
      obtain ⟨er5, hp5⟩ := hp5
      have htk := FNh_take hlt hI.2 hp5
      have hat := spS_at hG (by omega) hlt
      have e0 : eqx [16, 17, 18, 19, 20] S0 S5 := eqx_tr hI.1 (eqx_mono hp5.1 (by simp))
      refine g_runI (wX_fix a ki kz kl kq) rfl (rn_VN C (m_T_tell (P := (spS S0 u v).getD i []) hat.1 (by rw [e0 4 (by decide)]; exact fun k => ⟨(hG.2.2.1.2.2.1 k).2.2.2.2.1, (hG.2.2.1.2.2.1 k).2.2.2.2.2.1⟩) (by rw [e0 4 (by decide), er5]; exact htk.2) (by rw [e0 1 (by decide)]; exact hG.2.1) (by rw [e0 1 (by decide)]; exact hat.2.2) (by rw [e0 5 (by decide)]; exact fun k => ⟨(hG.2.2.1.2.2.1 k).2.2.2.2.2.2.1, (hG.2.2.1.2.2.1 k).2.2.2.2.2.2.2.1⟩)) 22 2 wX_22 rfl rfl kc_T_tell k_N_109 ki_T_tell kx_T_tell kn_T hy_T_tell ⟨rfl, rfl⟩ ⟨by decide, by decide⟩ ⟨Nat.le_refl _, Nat.le_refl _⟩ rfl rfl (Nat.le_of_ble_eq_true rfl) d_N_next_86) (fun r6 S6 hp6 => ?_)
      refine g_iret C hr hk d_N_next_89 ⟨_, rfl, ?_⟩
      obtain ⟨q1, q2, q3⟩ := hp6
      subst hik
      rw [e0 4 (by decide), e0 5 (by decide)] at q3
      refine Or.inr ⟨by omega, fun x x0 x1 => by rw [q1 18 (by decide)]; exact htk.1.1 x x0 x1, Or.inr ⟨by omega, q2, fun j hj => ?_, q3⟩⟩
      simp only [List.mem_cons, List.not_mem_nil, or_false, not_or] at hj
      rw [q1 j (by simp [hj]), e0 j (by simp [hj])]
    · exact absurd h54 (by omega)
  | succ j ih =>
    intro i S hi hk0 hI
    refine g_iload C d_N_next_51 rfl rfl ?_
    refine g_iload_n C d_N_next_53 rfl rfl ?_
    refine g_icmp_ge (tgt := 71) C d_N_next_54 (by decide) rfl (by omega) (by omega) (fun h54 => ?_) (fun h54 => ?_)
    · have hik : i = k.toNat := by omega
      have hlt : i < (spS S0 u v).length := by omega
      have pp := FNh_pre hlt hI.2 hl58
      refine g_aload_n C d_N_next_71 rfl rfl ?_
      refine g_get C 0 4 i_N wX_0 rfl (by decide) k_N_44 rfl rfl d_N_next_72 rfl ?_
      refine g_aload_n C d_N_next_75 rfl rfl ?_
      refine g_get C 0 0 i_N wX_0 rfl (by decide) k_N_12 rfl rfl d_N_next_76 rfl ?_
      refine g_aload_n C d_N_next_79 rfl rfl ?_
      refine g_get C 0 1 i_N wX_0 rfl (by decide) k_N_19 rfl rfl d_N_next_80 rfl ?_
      refine g_runL (wX_fix a ki kz kl kq) rfl (rn_VN C (m_H_takeFirst (n := (spS S0 u v).length - (i + 1)) pp.1 pp.2.1 pp.2.2.1 pp.2.2.2) 17 0 wX_17 rfl rfl kc_H_takeFirst k_N_105 ki_H_takeFirst kx_H_takeFirst kn_H hy_H_takeFirst ⟨rfl, rfl⟩ ⟨by decide, by decide⟩ ⟨Nat.le_refl _, Nat.le_refl _⟩ rfl rfl (Nat.le_of_ble_eq_true rfl) d_N_next_83) (fun r5 S5 hp5 => ?_)
      obtain ⟨er5, hp5⟩ := hp5
      have htk := FNh_take hlt hI.2 hp5
      have hat := spS_at hG (by omega) hlt
      have e0 : eqx [16, 17, 18, 19, 20] S0 S5 := eqx_tr hI.1 (eqx_mono hp5.1 (by simp))
      refine g_runI (wX_fix a ki kz kl kq) rfl (rn_VN C (m_T_tell (P := (spS S0 u v).getD i []) hat.1 (by rw [e0 4 (by decide)]; exact fun k => ⟨(hG.2.2.1.2.2.1 k).2.2.2.2.1, (hG.2.2.1.2.2.1 k).2.2.2.2.2.1⟩) (by rw [e0 4 (by decide), er5]; exact htk.2) (by rw [e0 1 (by decide)]; exact hG.2.1) (by rw [e0 1 (by decide)]; exact hat.2.2) (by rw [e0 5 (by decide)]; exact fun k => ⟨(hG.2.2.1.2.2.1 k).2.2.2.2.2.2.1, (hG.2.2.1.2.2.1 k).2.2.2.2.2.2.2.1⟩)) 22 2 wX_22 rfl rfl kc_T_tell k_N_109 ki_T_tell kx_T_tell kn_T hy_T_tell ⟨rfl, rfl⟩ ⟨by decide, by decide⟩ ⟨Nat.le_refl _, Nat.le_refl _⟩ rfl rfl (Nat.le_of_ble_eq_true rfl) d_N_next_86) (fun r6 S6 hp6 => ?_)
      refine g_iret C hr hk d_N_next_89 ⟨_, rfl, ?_⟩
      obtain ⟨q1, q2, q3⟩ := hp6
      subst hik
      rw [e0 4 (by decide), e0 5 (by decide)] at q3
      refine Or.inr ⟨by omega, fun x x0 x1 => by rw [q1 18 (by decide)]; exact htk.1.1 x x0 x1, Or.inr ⟨by omega, q2, fun j hj => ?_, q3⟩⟩
      simp only [List.mem_cons, List.not_mem_nil, or_false, not_or] at hj
      rw [q1 j (by simp [hj]), e0 j (by simp [hj])]
    · have hlt : i < (spS S0 u v).length := by omega
      have pp := FNh_pre hlt hI.2 hl58
      refine g_aload_n C d_N_next_57 rfl rfl ?_
      refine g_get C 0 1 i_N wX_0 rfl (by decide) k_N_19 rfl rfl d_N_next_58 rfl ?_
      refine g_runL (wX_fix a ki kz kl kq) rfl (rn_VN C (m_H_takeFirst (n := (spS S0 u v).length - (i + 1)) pp.1 pp.2.1 pp.2.2.1 pp.2.2.2) 17 0 wX_17 rfl rfl kc_H_takeFirst k_N_105 ki_H_takeFirst kx_H_takeFirst kn_H hy_H_takeFirst ⟨rfl, rfl⟩ ⟨by decide, by decide⟩ ⟨Nat.le_refl _, Nat.le_refl _⟩ rfl rfl (Nat.le_of_ble_eq_true rfl) d_N_next_61) (fun r5 S5 hp5 => ?_)
      obtain ⟨er5, hp5⟩ := hp5
      have htk := FNh_take hlt hI.2 hp5
      refine g_pop2 C d_N_next_64 rfl rfl ?_
      obtain ⟨i2, e_i2⟩ : ∃ z : Int, z = (i : Int) + 1 := ⟨_, rfl⟩
      refine g_iinc (q := 0) (z := i2) (lv' := [(4, .int (iI i2)), (0, .ref (a 0)), (1, .int (iI u)), (2, .int (iI v)), (3, .int (iI k))]) C d_N_next_65 rfl e_i2.symm (by decide) rfl rfl ?_
      refine g_goto (tgt := 51) C d_N_next_68 (by decide) ?_
      refine GG.lvs (lv' := [(4, .int (iI ((i + 1 : Nat) : Int))), (0, .ref (a 0)), (1, .int (iI u)), (2, .int (iI v)), (3, .int (iI k))]) (by rw [show i2 = ((i + 1 : Nat) : Int) by omega]; simp [lk]) ?_
      exact ih (i + 1) _ (by omega) (by omega) ⟨eqx_tr hI.1 (eqx_mono hp5.1 (by simp)), htk.1⟩

set_option maxRecDepth 100000 in
set_option maxHeartbeats 4000000 in
theorem m_N_next {l : Launch} {D : va_G} {a : Nat → Nat} {ki kz kl kq : ClassId} {S : Nat → Int → Int} {u v k : Int} (hG : GIs S) (hz : BZ S) (hu : r32 u) (hv : r32 v) (hk3 : r32 k) : MX l D a ki kz kl kq y_N_next b_N_next 5 (some .int) rm_N_next [.ref (a 0), .int (iI u), .int (iI v), .int (iI k)] S (pI fun r S' => (¬ (twoS S u v ∧ 0 ≤ k ∧ k ≤ 299) ∧ r = -2 ∧ S' = S) ∨ ((twoS S u v ∧ 0 ≤ k ∧ k ≤ 299) ∧ BZ S' ∧ ((((spS S u v).length : Int) ≤ k ∧ r = -1 ∧ eqx [16, 17, 18, 19, 20] S S') ∨ (k < (spS S u v).length ∧ r = ((spS S u v).getD k.toNat []).length ∧ eqx [16, 17, 18, 19, 20, 30, 31, 32, 33] S S' ∧ TL S' ((spS S u v).getD k.toNat []) (wp (S 4) ((spS S u v).getD k.toNat [])) (wp (S 5) ((spS S u v).getD k.toNat [])))))) := by
  refine MM.go b_N_next 5 (some .int) "NextPaths" [(0, .ref (a 0)), (1, .int (iI u)), (2, .int (iI v)), (3, .int (iI k))] (by decide) rfl rfl (Nat.le_of_ble_eq_true rfl) ?_
  intro p e s m args below meth c C hr hk
  refine g_aload_n C d_N_next_0 rfl rfl ?_
  refine g_get C 0 0 i_N wX_0 rfl (by decide) k_N_12 rfl rfl d_N_next_1 rfl ?_
  refine g_iload_n C d_N_next_4 rfl rfl ?_
  refine g_iload_n C d_N_next_5 rfl rfl ?_
  refine g_runI (wX_fix a ki kz kl kq) rfl (rn_VN C (m_G_areTwoNodes hu hv hG.1) 1 2 wX_1 rfl rfl kc_G_areTwoNodes k_N_68 ki_G_areTwoNodes kx_G_areTwoNodes kn_G hy_G_areTwoNodes ⟨rfl, rfl⟩ ⟨by decide, by decide⟩ ⟨Nat.le_refl _, Nat.le_refl _⟩ rfl rfl (Nat.le_of_ble_eq_true rfl) d_N_next_6) (fun r1 S1 hp1 => ?_)
  obtain ⟨hS1, hp1⟩ := hp1
  refine GG.at hS1 ?_
  refine g_if_eq (tgt := 23) C d_N_next_9 (by decide) rfl (by omega) (fun h9 => ?_) (fun h9 => ?_)
  · refine g_bipush (z := (-2)) C d_N_next_23 rfl (by decide) ?_
    refine g_iret C hr hk d_N_next_25 ⟨_, rfl, ?_⟩
    exact Or.inl ⟨by omega, rfl, rfl⟩
  · refine g_iload_n C d_N_next_12 rfl rfl ?_
    refine g_iconst (z := 0) C d_N_next_13 rfl rfl ?_
    refine g_sipush (z := 299) C d_N_next_14 rfl (by decide) ?_
    refine g_runI (wX_fix a ki kz kl kq) rfl (rn_S C (m_N_liesIn hk3 (by decide) (by decide)) 3 kc_N_liesIn k_N_94 ks_N_liesIn kn_N hy_N_liesIn ⟨rfl, rfl⟩ ⟨by decide, by decide⟩ ⟨Nat.le_refl _, Nat.le_refl _⟩ rfl rfl (Nat.le_of_ble_eq_true rfl) d_N_next_17) (fun r2 S2 hp2 => ?_)
    obtain ⟨hS2, hp2⟩ := hp2
    refine GG.at hS2 ?_
    refine g_if_ne (tgt := 26) C d_N_next_20 (by decide) rfl (by omega) (fun h20 => ?_) (fun h20 => ?_)
    · refine g_aload_n C d_N_next_26 rfl rfl ?_
      refine g_get C 0 2 i_N wX_0 rfl (by decide) k_N_28 rfl rfl d_N_next_27 rfl ?_
      refine g_iload_n C d_N_next_30 rfl rfl ?_
      refine g_iload_n C d_N_next_31 rfl rfl ?_
      refine g_runV (wX_fix a ki kz kl kq) rfl (rn_VN C (m_P_findAll hG hz (by omega) (by omega)) 19 2 wX_19 rfl rfl kc_P_findAll k_N_98 ki_P_findAll kx_P_findAll kn_P hy_P_findAll ⟨rfl, rfl⟩ ⟨by decide, by decide⟩ ⟨Nat.le_refl _, Nat.le_refl _⟩ rfl rfl (Nat.le_of_ble_eq_true rfl) d_N_next_32) (fun S3 hp3 => ?_)
      have hl58 : (spS S u v).length ≤ 1458 := sp_len hG.2.2.1 (a := u) (b := v) (by have := hG.1; omega) (by have := hG.1; omega)
      refine g_iload_n C d_N_next_35 rfl rfl ?_
      refine g_aload_n C d_N_next_36 rfl rfl ?_
      refine g_get C 0 1 i_N wX_0 rfl (by decide) k_N_19 rfl rfl d_N_next_37 rfl ?_
      refine g_getN C 17 1 i_H wX_17 rfl (by decide) k_N_102 rfl rfl d_N_next_40 rfl ?_
      refine g_v (z' := ((spS S u v).length : Int)) hp3.2.2.1.1 ?_
      refine g_icmp_lt (tgt := 48) C d_N_next_43 (by decide) rfl (by omega) (by omega) (fun h43 => ?_) (fun h43 => ?_)
      · refine g_iconst (z := 0) C d_N_next_48 rfl rfl ?_
        refine g_nm (fun i0 e_i0 => ?_)
        refine g_istore (lv' := [(4, .int (iI i0)), (0, .ref (a 0)), (1, .int (iI u)), (2, .int (iI v)), (3, .int (iI k))]) C d_N_next_49 (by decide) rfl rfl ?_
        subst e_i0
        exact lo_N_next hG (by omega) (by omega) h43 hl58 C hr hk _ 0 _ (by omega) (Nat.le_add_left _ _) ⟨hp3.1, hp3.2.1, hp3.2.2.1, hp3.2.2.2⟩
      · refine g_iconst (z := (-1)) C d_N_next_46 rfl rfl ?_
        refine g_iret C hr hk d_N_next_47 ⟨_, rfl, ?_⟩
        exact Or.inr ⟨by omega, hp3.2.1, Or.inl ⟨h43, rfl, hp3.1⟩⟩
    · refine g_bipush (z := (-2)) C d_N_next_23 rfl (by decide) ?_
      refine g_iret C hr hk d_N_next_25 ⟨_, rfl, ?_⟩
      exact Or.inl ⟨by omega, rfl, rfl⟩

set_option maxRecDepth 100000 in
set_option maxHeartbeats 4000000 in
theorem lo_N_within {l : Launch} {D : va_G} {a : Nat → Nat} {ki kz kl kq : ClassId} {p : Program} {e : Env} {s : State} {m : MethodId} {args : Array Value} {below : List Frame} {meth : Method} {c : Code} {S0 : Nat → Int → Int} {u v k : Int} (hG : GIs S0) (h2 : twoS S0 u v) (hk3 : 0 ≤ k ∧ k ≤ 7000) (hl58 : (spS S0 u v).length ≤ 1458) (C : CX p s m args c b_N_within 7 "NextPaths" TT D cls (tyz ki kz kl kq)) (hr : meth.sig.returnType = (some .int)) (hk : meth.locks = false) : ∀ (j i : Nat) (S : Nat → Int → Int), i ≤ (spS S0 u v).length → (spS S0 u v).length ≤ i + j → (eqx [16, 17, 18, 19, 20] S0 S ∧ FNh S0 S u v i ∧ ∀ j : Nat, j < i → k < wp (S0 5) ((spS S0 u v).getD j [])) → GG p l e rm_N_within s m args below meth c D cls (adr (wX a ki kz kl kq S0)) 7 0 0 (MQ below (QcW D cls (wX a ki kz kl kq) S0 (pI fun r S' => (¬ (twoS S0 u v ∧ 0 ≤ k ∧ k ≤ 7000) ∧ r = -2 ∧ S' = S0) ∨ ((twoS S0 u v ∧ 0 ≤ k ∧ k ≤ 7000) ∧ BZ S' ∧ (((∀ j : Nat, j < (spS S0 u v).length → k < wp (S0 5) ((spS S0 u v).getD j [])) ∧ r = -1 ∧ eqx [16, 17, 18, 19, 20] S0 S') ∨ (∃ i : Nat, i < (spS S0 u v).length ∧ (∀ j : Nat, j < i → k < wp (S0 5) ((spS S0 u v).getD j [])) ∧ wp (S0 5) ((spS S0 u v).getD i []) ≤ k ∧ r = ((spS S0 u v).getD i []).length ∧ eqx [16, 17, 18, 19, 20, 30, 31, 32, 33] S0 S' ∧ TL S' ((spS S0 u v).getD i []) (wp (S0 4) ((spS S0 u v).getD i [])) (wp (S0 5) ((spS S0 u v).getD i []))))))) args s 0 0 (adr (wX a ki kz kl kq S0))) (wX a ki kz kl kq) S [(4, .int (iI (((spS S0 u v).length : Int) - (i : Int)))), (0, .ref (a 0)), (1, .int (iI u)), (2, .int (iI v)), (3, .int (iI k))] 44 [] := by
  intro j
  induction j with
  | zero =>
    intro i S hi hk0 hI
    refine g_iload C d_N_within_44 rfl rfl ?_
    refine g_if_le (tgt := 91) C d_N_within_46 (by decide) rfl (by omega) (fun h46 => ?_) (fun h46 => ?_)
    · refine g_iconst (z := (-1)) C d_N_within_91 rfl rfl ?_
      refine g_iret C hr hk d_N_within_92 ⟨_, rfl, ?_⟩
      exact Or.inr ⟨by omega, hI.2.1.1, Or.inl ⟨fun j hj => hI.2.2 j (by omega), rfl, hI.1⟩⟩
    · exact absurd h46 (by omega)
  | succ j ih =>
    intro i S hi hk0 hI
    refine g_iload C d_N_within_44 rfl rfl ?_
    refine g_if_le (tgt := 91) C d_N_within_46 (by decide) rfl (by omega) (fun h46 => ?_) (fun h46 => ?_)
    · refine g_iconst (z := (-1)) C d_N_within_91 rfl rfl ?_
      refine g_iret C hr hk d_N_within_92 ⟨_, rfl, ?_⟩
      exact Or.inr ⟨by omega, hI.2.1.1, Or.inl ⟨fun j hj => hI.2.2 j (by omega), rfl, hI.1⟩⟩
    · have hlt : i < (spS S0 u v).length := by omega
      have pp := FNh_pre hlt hI.2.1 hl58
      refine g_aload_n C d_N_within_49 rfl rfl ?_
      refine g_get C 0 1 i_N wX_0 rfl (by decide) k_N_19 rfl rfl d_N_within_50 rfl ?_
      refine g_runL (wX_fix a ki kz kl kq) rfl (rn_VN C (m_H_takeFirst (n := (spS S0 u v).length - (i + 1)) pp.1 pp.2.1 pp.2.2.1 pp.2.2.2) 17 0 wX_17 rfl rfl kc_H_takeFirst k_N_105 ki_H_takeFirst kx_H_takeFirst kn_H hy_H_takeFirst ⟨rfl, rfl⟩ ⟨by decide, by decide⟩ ⟨Nat.le_refl _, Nat.le_refl _⟩ rfl rfl (Nat.le_of_ble_eq_true rfl) d_N_within_53) (fun r5 S5 hp5 => ?_)
      obtain ⟨er5, hp5⟩ := hp5
      have htk := FNh_take hlt hI.2.1 hp5
      have hat := spS_at hG (by omega) hlt
      have e0 : eqx [16, 17, 18, 19, 20] S0 S5 := eqx_tr hI.1 (eqx_mono hp5.1 (by simp))
      have hx5 : r5 = cd (S5 4) ((spS S0 u v).getD i []) := by rw [e0 4 (by decide), er5]; exact htk.2
      refine g_nml (fun x5 e_x5 => ?_)
      refine g_lstore (lv' := [(5, .long (lI x5)), (4, .int (iI (((spS S0 u v).length : Int) - (i : Int)))), (0, .ref (a 0)), (1, .int (iI u)), (2, .int (iI v)), (3, .int (iI k))]) C d_N_within_56 (by decide) rfl rfl ?_
      refine g_aload_n C d_N_within_58 rfl rfl ?_
      refine g_get C 0 0 i_N wX_0 rfl (by decide) k_N_12 rfl rfl d_N_within_59 rfl ?_
      refine g_lload C d_N_within_62 rfl rfl ?_
      refine g_runI (wX_fix a ki kz kl kq) rfl (rn_VN C (m_G_secondOf (W := S5 4) (P := (spS S0 u v).getD i []) hat.1 (by rw [e0 4 (by decide)]; exact fun k => ⟨(hG.2.2.1.2.2.1 k).2.2.2.2.1, (hG.2.2.1.2.2.1 k).2.2.2.2.2.1⟩) (by rw [e_x5]; exact hx5) (by rw [e0 1 (by decide)]; exact hG.2.1) (by rw [e0 1 (by decide)]; exact hat.2.2) (by rw [e0 5 (by decide)]; exact fun k => ⟨(hG.2.2.1.2.2.1 k).2.2.2.2.2.2.1, (hG.2.2.1.2.2.1 k).2.2.2.2.2.2.2.1⟩)) 1 1 wX_1 rfl rfl kc_G_secondOf k_N_120 ki_G_secondOf kx_G_secondOf kn_G hy_G_secondOf ⟨rfl, rfl⟩ ⟨by decide, by decide⟩ ⟨Nat.le_refl _, Nat.le_refl _⟩ rfl rfl (Nat.le_of_ble_eq_true rfl) d_N_within_64) (fun r6 S6 hp6 => ?_)
      obtain ⟨hS6, rfl⟩ := hp6
      refine GG.at hS6 ?_
      refine g_v (z' := wp (S0 5) ((spS S0 u v).getD i [])) (by rw [e0 5 (by decide)]) ?_
      have hwb := wp_bd (W := S0 5) (fun k => ⟨(hG.2.2.1.2.2.1 k).2.2.2.2.2.2.1, (hG.2.2.1.2.2.1 k).2.2.2.2.2.2.2.1⟩) ((spS S0 u v).getD i [])
      have h77 := hat.1.1
      refine g_iload_n C d_N_within_67 rfl rfl ?_
      refine g_icmp_gt (tgt := 85) C d_N_within_68 (by decide) rfl (by omega) (by omega) (fun h68 => ?_) (fun h68 => ?_)
      · obtain ⟨l2, e_l2⟩ : ∃ z : Int, z = (((spS S0 u v).length : Int) - (i : Int)) + (-1) := ⟨_, rfl⟩
        refine g_iinc (q := 1) (z := l2) (lv' := [(4, .int (iI l2)), (5, .long (lI x5)), (0, .ref (a 0)), (1, .int (iI u)), (2, .int (iI v)), (3, .int (iI k))]) C d_N_within_85 rfl e_l2.symm (by decide) rfl rfl ?_
        refine g_goto (tgt := 44) C d_N_within_88 (by decide) ?_
        refine GG.lvs (lv' := [(4, .int (iI (((spS S0 u v).length : Int) - ((i + 1 : Nat) : Int)))), (0, .ref (a 0)), (1, .int (iI u)), (2, .int (iI v)), (3, .int (iI k))]) (by rw [show l2 = ((spS S0 u v).length : Int) - ((i + 1 : Nat) : Int) by omega]; simp [lk]) ?_
        refine ih (i + 1) _ (by omega) (by omega) ⟨e0, htk.1, fun j hj => ?_⟩
        by_cases ej : j = i
        · subst ej; exact h68
        · exact hI.2.2 j (by omega)
      · refine g_aload_n C d_N_within_71 rfl rfl ?_
        refine g_get C 0 4 i_N wX_0 rfl (by decide) k_N_44 rfl rfl d_N_within_72 rfl ?_
        refine g_aload_n C d_N_within_75 rfl rfl ?_
        refine g_get C 0 0 i_N wX_0 rfl (by decide) k_N_12 rfl rfl d_N_within_76 rfl ?_
        refine g_lload C d_N_within_79 rfl rfl ?_
        refine g_runI (wX_fix a ki kz kl kq) rfl (rn_VN C (m_T_tell (P := (spS S0 u v).getD i []) hat.1 (by rw [e0 4 (by decide)]; exact fun k => ⟨(hG.2.2.1.2.2.1 k).2.2.2.2.1, (hG.2.2.1.2.2.1 k).2.2.2.2.2.1⟩) (by rw [e_x5]; exact hx5) (by rw [e0 1 (by decide)]; exact hG.2.1) (by rw [e0 1 (by decide)]; exact hat.2.2) (by rw [e0 5 (by decide)]; exact fun k => ⟨(hG.2.2.1.2.2.1 k).2.2.2.2.2.2.1, (hG.2.2.1.2.2.1 k).2.2.2.2.2.2.2.1⟩)) 22 2 wX_22 rfl rfl kc_T_tell k_N_109 ki_T_tell kx_T_tell kn_T hy_T_tell ⟨rfl, rfl⟩ ⟨by decide, by decide⟩ ⟨Nat.le_refl _, Nat.le_refl _⟩ rfl rfl (Nat.le_of_ble_eq_true rfl) d_N_within_81) (fun r6 S6 hp6 => ?_)
        refine g_iret C hr hk d_N_within_84 ⟨_, rfl, ?_⟩
        obtain ⟨q1, q2, q3⟩ := hp6
        rw [e0 4 (by decide), e0 5 (by decide)] at q3
        refine Or.inr ⟨by omega, fun x x0 x1 => by rw [q1 18 (by decide)]; exact htk.1.1 x x0 x1, Or.inr ⟨i, hlt, hI.2.2, h68, q2, fun j hj => ?_, q3⟩⟩
        simp only [List.mem_cons, List.not_mem_nil, or_false, not_or] at hj
        rw [q1 j (by simp [hj]), e0 j (by simp [hj])]

set_option maxRecDepth 100000 in
set_option maxHeartbeats 4000000 in
theorem m_N_within {l : Launch} {D : va_G} {a : Nat → Nat} {ki kz kl kq : ClassId} {S : Nat → Int → Int} {u v k : Int} (hG : GIs S) (hz : BZ S) (hu : r32 u) (hv : r32 v) (hk3 : r32 k) : MX l D a ki kz kl kq y_N_within b_N_within 7 (some .int) rm_N_within [.ref (a 0), .int (iI u), .int (iI v), .int (iI k)] S (pI fun r S' => (¬ (twoS S u v ∧ 0 ≤ k ∧ k ≤ 7000) ∧ r = -2 ∧ S' = S) ∨ ((twoS S u v ∧ 0 ≤ k ∧ k ≤ 7000) ∧ BZ S' ∧ (((∀ j : Nat, j < (spS S u v).length → k < wp (S 5) ((spS S u v).getD j [])) ∧ r = -1 ∧ eqx [16, 17, 18, 19, 20] S S') ∨ (∃ i : Nat, i < (spS S u v).length ∧ (∀ j : Nat, j < i → k < wp (S 5) ((spS S u v).getD j [])) ∧ wp (S 5) ((spS S u v).getD i []) ≤ k ∧ r = ((spS S u v).getD i []).length ∧ eqx [16, 17, 18, 19, 20, 30, 31, 32, 33] S S' ∧ TL S' ((spS S u v).getD i []) (wp (S 4) ((spS S u v).getD i [])) (wp (S 5) ((spS S u v).getD i [])))))) := by
  refine MM.go b_N_within 7 (some .int) "NextPaths" [(0, .ref (a 0)), (1, .int (iI u)), (2, .int (iI v)), (3, .int (iI k))] (by decide) rfl rfl (Nat.le_of_ble_eq_true rfl) ?_
  intro p e s m args below meth c C hr hk
  refine g_aload_n C d_N_within_0 rfl rfl ?_
  refine g_get C 0 0 i_N wX_0 rfl (by decide) k_N_12 rfl rfl d_N_within_1 rfl ?_
  refine g_iload_n C d_N_within_4 rfl rfl ?_
  refine g_iload_n C d_N_within_5 rfl rfl ?_
  refine g_runI (wX_fix a ki kz kl kq) rfl (rn_VN C (m_G_areTwoNodes hu hv hG.1) 1 2 wX_1 rfl rfl kc_G_areTwoNodes k_N_68 ki_G_areTwoNodes kx_G_areTwoNodes kn_G hy_G_areTwoNodes ⟨rfl, rfl⟩ ⟨by decide, by decide⟩ ⟨Nat.le_refl _, Nat.le_refl _⟩ rfl rfl (Nat.le_of_ble_eq_true rfl) d_N_within_6) (fun r1 S1 hp1 => ?_)
  obtain ⟨hS1, hp1⟩ := hp1
  refine GG.at hS1 ?_
  refine g_if_eq (tgt := 23) C d_N_within_9 (by decide) rfl (by omega) (fun h9 => ?_) (fun h9 => ?_)
  · refine g_bipush (z := (-2)) C d_N_within_23 rfl (by decide) ?_
    refine g_iret C hr hk d_N_within_25 ⟨_, rfl, ?_⟩
    exact Or.inl ⟨by omega, rfl, rfl⟩
  · refine g_iload_n C d_N_within_12 rfl rfl ?_
    refine g_iconst (z := 0) C d_N_within_13 rfl rfl ?_
    refine g_sipush (z := 7000) C d_N_within_14 rfl (by decide) ?_
    refine g_runI (wX_fix a ki kz kl kq) rfl (rn_S C (m_N_liesIn hk3 (by decide) (by decide)) 3 kc_N_liesIn k_N_94 ks_N_liesIn kn_N hy_N_liesIn ⟨rfl, rfl⟩ ⟨by decide, by decide⟩ ⟨Nat.le_refl _, Nat.le_refl _⟩ rfl rfl (Nat.le_of_ble_eq_true rfl) d_N_within_17) (fun r2 S2 hp2 => ?_)
    obtain ⟨hS2, hp2⟩ := hp2
    refine GG.at hS2 ?_
    refine g_if_ne (tgt := 26) C d_N_within_20 (by decide) rfl (by omega) (fun h20 => ?_) (fun h20 => ?_)
    · refine g_aload_n C d_N_within_26 rfl rfl ?_
      refine g_get C 0 2 i_N wX_0 rfl (by decide) k_N_28 rfl rfl d_N_within_27 rfl ?_
      refine g_iload_n C d_N_within_30 rfl rfl ?_
      refine g_iload_n C d_N_within_31 rfl rfl ?_
      refine g_runV (wX_fix a ki kz kl kq) rfl (rn_VN C (m_P_findAll hG hz (by omega) (by omega)) 19 2 wX_19 rfl rfl kc_P_findAll k_N_98 ki_P_findAll kx_P_findAll kn_P hy_P_findAll ⟨rfl, rfl⟩ ⟨by decide, by decide⟩ ⟨Nat.le_refl _, Nat.le_refl _⟩ rfl rfl (Nat.le_of_ble_eq_true rfl) d_N_within_32) (fun S3 hp3 => ?_)
      have hl58 : (spS S u v).length ≤ 1458 := sp_len hG.2.2.1 (a := u) (b := v) (by have := hG.1; omega) (by have := hG.1; omega)
      refine g_aload_n C d_N_within_35 rfl rfl ?_
      refine g_get C 0 1 i_N wX_0 rfl (by decide) k_N_19 rfl rfl d_N_within_36 rfl ?_
      refine g_getN C 17 1 i_H wX_17 rfl (by decide) k_N_102 rfl rfl d_N_within_39 rfl ?_
      refine g_v (z' := ((spS S u v).length : Int)) hp3.2.2.1.1 ?_
      refine g_nm (fun l0 e_l0 => ?_)
      refine g_istore (lv' := [(4, .int (iI l0)), (0, .ref (a 0)), (1, .int (iI u)), (2, .int (iI v)), (3, .int (iI k))]) C d_N_within_42 (by decide) rfl rfl ?_
      refine GG.lvs (lv' := [(4, .int (iI (((spS S u v).length : Int) - ((0 : Nat) : Int)))), (0, .ref (a 0)), (1, .int (iI u)), (2, .int (iI v)), (3, .int (iI k))]) (by rw [show l0 = ((spS S u v).length : Int) - ((0 : Nat) : Int) by omega]; simp [lk]) ?_
      exact lo_N_within hG (by omega) (by omega) hl58 C hr hk _ 0 _ (by omega) (Nat.le_add_left _ _) ⟨hp3.1, ⟨hp3.2.1, hp3.2.2.1, hp3.2.2.2⟩, fun j hj => by omega⟩
    · refine g_bipush (z := (-2)) C d_N_within_23 rfl (by decide) ?_
      refine g_iret C hr hk d_N_within_25 ⟨_, rfl, ?_⟩
      exact Or.inl ⟨by omega, rfl, rfl⟩

