/-! the class: tests of numbers -/
set_option maxRecDepth 100000 in
set_option maxHeartbeats 4000000 in
theorem m_N_liesIn {l : Launch} {D : va_G} {a : Nat → Nat} {ki kz kl kq : ClassId} {S : Nat → Int → Int} {z lo hi : Int} (hz : r32 z) (hl : r32 lo) (hh : r32 hi) : MX l D a ki kz kl kq y_N_liesIn b_N_liesIn 3 (some .boolean) rm_N_liesIn [.int (iI z), .int (iI lo), .int (iI hi)] S (pI fun r S' => S' = S ∧ ((r = 1 ∧ lo ≤ z ∧ z ≤ hi) ∨ (r = 0 ∧ ¬ (lo ≤ z ∧ z ≤ hi)))) := by
  refine MM.go b_N_liesIn 3 (some .boolean) "NextPaths" [(0, .int (iI z)), (1, .int (iI lo)), (2, .int (iI hi))] (by decide) rfl rfl (Nat.le_of_ble_eq_true rfl) ?_
  intro p e s m args below meth c C hr hk
  refine g_iload_n C d_N_liesIn_0 rfl rfl ?_
  refine g_iload_n C d_N_liesIn_1 rfl rfl ?_
  refine g_icmp_gt (tgt := 14) C d_N_liesIn_2 (by decide) rfl (by omega) (by omega) (fun h2 => ?_) (fun h2 => ?_)
  · refine g_iconst (z := 0) C d_N_liesIn_14 rfl rfl ?_
    refine g_zret C hr hk (by omega) d_N_liesIn_15 ⟨_, rfl, ?_⟩
    exact ⟨rfl, by omega⟩
  · refine g_iload_n C d_N_liesIn_5 rfl rfl ?_
    refine g_iload_n C d_N_liesIn_6 rfl rfl ?_
    refine g_icmp_gt (tgt := 14) C d_N_liesIn_7 (by decide) rfl (by omega) (by omega) (fun h7 => ?_) (fun h7 => ?_)
    · refine g_iconst (z := 0) C d_N_liesIn_14 rfl rfl ?_
      refine g_zret C hr hk (by omega) d_N_liesIn_15 ⟨_, rfl, ?_⟩
      exact ⟨rfl, by omega⟩
    · refine g_iconst (z := 1) C d_N_liesIn_10 rfl rfl ?_
      refine g_goto (tgt := 15) C d_N_liesIn_11 (by decide) ?_
      refine g_zret C hr hk (by omega) d_N_liesIn_15 ⟨_, rfl, ?_⟩
      exact ⟨rfl, by omega⟩

set_option maxRecDepth 100000 in
set_option maxHeartbeats 4000000 in
theorem m_N_isWeight {l : Launch} {D : va_G} {a : Nat → Nat} {ki kz kl kq : ClassId} {S : Nat → Int → Int} {z : Int} (hz : r32 z) : MX l D a ki kz kl kq y_N_isWeight b_N_isWeight 1 (some .boolean) rm_N_isWeight [.int (iI z)] S (pI fun r S' => S' = S ∧ ((r = 1 ∧ 0 ≤ z ∧ z ≤ 1000) ∨ (r = 0 ∧ ¬ (0 ≤ z ∧ z ≤ 1000)))) := by
  refine MM.go b_N_isWeight 1 (some .boolean) "NextPaths" [(0, .int (iI z))] (by decide) rfl rfl (Nat.le_of_ble_eq_true rfl) ?_
  intro p e s m args below meth c C hr hk
  refine g_iload_n C d_N_isWeight_0 rfl rfl ?_
  refine g_iconst (z := 0) C d_N_isWeight_1 rfl rfl ?_
  refine g_sipush (z := 1000) C d_N_isWeight_2 rfl (by decide) ?_
  refine g_runI (wX_fix a ki kz kl kq) rfl (rn_S C (m_N_liesIn hz (by decide) (by decide)) 3 kc_N_liesIn k_N_94 ks_N_liesIn kn_N hy_N_liesIn ⟨rfl, rfl⟩ ⟨by decide, by decide⟩ ⟨Nat.le_refl _, Nat.le_refl _⟩ rfl rfl (by decide) d_N_isWeight_5) (fun r S' hp => ?_)
  obtain ⟨rfl, hp⟩ := hp
  refine g_zret C hr hk (by omega) d_N_isWeight_8 ⟨_, rfl, ?_⟩
  exact ⟨rfl, by omega⟩

set_option maxRecDepth 100000 in
set_option maxHeartbeats 4000000 in
theorem m_G_isNode {l : Launch} {D : va_G} {a : Nat → Nat} {ki kz kl kq : ClassId} {S : Nat → Int → Int} {z : Int} (hz : r32 z) (hn : 0 ≤ S 0 0 ∧ S 0 0 ≤ 8) : MX l D a ki kz kl kq y_G_isNode b_G_isNode 2 (some .boolean) rm_G_isNode [.ref (a 1), .int (iI z)] S (pI fun r S' => S' = S ∧ ((r = 1 ∧ 0 ≤ z ∧ z < S 0 0) ∨ (r = 0 ∧ ¬ (0 ≤ z ∧ z < S 0 0)))) := by
  refine MM.go b_G_isNode 2 (some .boolean) "NextPaths$Graph" [(0, .ref (a 1)), (1, .int (iI z))] (by decide) rfl rfl (Nat.le_of_ble_eq_true rfl) ?_
  intro p e s m args below meth c C hr hk
  refine g_iload_n C d_G_isNode_0 rfl rfl ?_
  refine g_iconst (z := 0) C d_G_isNode_1 rfl rfl ?_
  refine g_aload_n C d_G_isNode_2 rfl rfl ?_
  refine g_get C 1 0 i_G wX_1 rfl (by decide) k_G_36 rfl rfl d_G_isNode_3 rfl ?_
  refine g_iconst (z := 1) C d_G_isNode_6 rfl rfl ?_
  refine g_isub C d_G_isNode_7 rfl rfl ?_
  refine g_runI (wX_fix a ki kz kl kq) rfl (rn_SN C (m_N_liesIn hz (by decide) (by omega)) 3 kc_N_liesIn k_G_49 ks_N_liesIn kn_N hy_N_liesIn ⟨rfl, rfl⟩ ⟨by decide, by decide⟩ ⟨Nat.le_refl _, Nat.le_refl _⟩ rfl rfl (by decide) d_G_isNode_8) (fun r S' hp => ?_)
  obtain ⟨rfl, hp⟩ := hp
  refine g_zret C hr hk (by omega) d_G_isNode_11 ⟨_, rfl, ?_⟩
  exact ⟨rfl, by omega⟩

set_option maxRecDepth 100000 in
set_option maxHeartbeats 4000000 in
theorem m_G_isArc {l : Launch} {D : va_G} {a : Nat → Nat} {ki kz kl kq : ClassId} {S : Nat → Int → Int} {z : Int} (hz : r32 z) (hn : 0 ≤ S 1 0 ∧ S 1 0 ≤ 20) : MX l D a ki kz kl kq y_G_isArc b_G_isArc 2 (some .boolean) rm_G_isArc [.ref (a 1), .int (iI z)] S (pI fun r S' => S' = S ∧ ((r = 1 ∧ 0 ≤ z ∧ z < S 1 0) ∨ (r = 0 ∧ ¬ (0 ≤ z ∧ z < S 1 0)))) := by
  refine MM.go b_G_isArc 2 (some .boolean) "NextPaths$Graph" [(0, .ref (a 1)), (1, .int (iI z))] (by decide) rfl rfl (Nat.le_of_ble_eq_true rfl) ?_
  intro p e s m args below meth c C hr hk
  refine g_iload_n C d_G_isArc_0 rfl rfl ?_
  refine g_iconst (z := 0) C d_G_isArc_1 rfl rfl ?_
  refine g_aload_n C d_G_isArc_2 rfl rfl ?_
  refine g_get C 1 1 i_G wX_1 rfl (by decide) k_G_40 rfl rfl d_G_isArc_3 rfl ?_
  refine g_iconst (z := 1) C d_G_isArc_6 rfl rfl ?_
  refine g_isub C d_G_isArc_7 rfl rfl ?_
  refine g_runI (wX_fix a ki kz kl kq) rfl (rn_SN C (m_N_liesIn hz (by decide) (by omega)) 3 kc_N_liesIn k_G_49 ks_N_liesIn kn_N hy_N_liesIn ⟨rfl, rfl⟩ ⟨by decide, by decide⟩ ⟨Nat.le_refl _, Nat.le_refl _⟩ rfl rfl (by decide) d_G_isArc_8) (fun r S' hp => ?_)
  obtain ⟨rfl, hp⟩ := hp
  refine g_zret C hr hk (by omega) d_G_isArc_11 ⟨_, rfl, ?_⟩
  exact ⟨rfl, by omega⟩

set_option maxRecDepth 100000 in
set_option maxHeartbeats 4000000 in
theorem m_G_areTwoNodes {l : Launch} {D : va_G} {a : Nat → Nat} {ki kz kl kq : ClassId} {S : Nat → Int → Int} {u v : Int} (hu : r32 u) (hv : r32 v) (hn : 0 ≤ S 0 0 ∧ S 0 0 ≤ 8) : MX l D a ki kz kl kq y_G_areTwoNodes b_G_areTwoNodes 3 (some .boolean) rm_G_areTwoNodes [.ref (a 1), .int (iI u), .int (iI v)] S (pI fun r S' => S' = S ∧ ((r = 1 ∧ 0 ≤ u ∧ u < S 0 0 ∧ 0 ≤ v ∧ v < S 0 0 ∧ u ≠ v) ∨ (r = 0 ∧ ¬ (0 ≤ u ∧ u < S 0 0 ∧ 0 ≤ v ∧ v < S 0 0 ∧ u ≠ v)))) := by
  refine MM.go b_G_areTwoNodes 3 (some .boolean) "NextPaths$Graph" [(0, .ref (a 1)), (1, .int (iI u)), (2, .int (iI v))] (by decide) rfl rfl (Nat.le_of_ble_eq_true rfl) ?_
  intro p e s m args below meth c C hr hk
  refine g_aload_n C d_G_areTwoNodes_0 rfl rfl ?_
  refine g_iload_n C d_G_areTwoNodes_1 rfl rfl ?_
  refine g_runI (wX_fix a ki kz kl kq) rfl (rn_V C (m_G_isNode hu hn) 1 1 wX_1 rfl rfl kc_G_isNode k_G_53 ki_G_isNode kx_G_isNode kn_G hy_G_isNode ⟨rfl, rfl⟩ ⟨by decide, by decide⟩ ⟨Nat.le_refl _, Nat.le_refl _⟩ rfl rfl (by decide) d_G_areTwoNodes_2) (fun r1 S' hp1 => ?_)
  obtain ⟨rfl, hp1⟩ := hp1
  refine g_if_eq (tgt := 25) C d_G_areTwoNodes_5 (by decide) rfl (by omega) (fun h5 => ?_) (fun h5 => ?_)
  · refine g_iconst (z := 0) C d_G_areTwoNodes_25 rfl rfl ?_
    refine g_zret C hr hk (by omega) d_G_areTwoNodes_26 ⟨_, rfl, ?_⟩
    exact ⟨rfl, by omega⟩
  · refine g_aload_n C d_G_areTwoNodes_8 rfl rfl ?_
    refine g_iload_n C d_G_areTwoNodes_9 rfl rfl ?_
    refine g_runI (wX_fix a ki kz kl kq) rfl (rn_V C (m_G_isNode hv hn) 1 1 wX_1 rfl rfl kc_G_isNode k_G_53 ki_G_isNode kx_G_isNode kn_G hy_G_isNode ⟨rfl, rfl⟩ ⟨by decide, by decide⟩ ⟨Nat.le_refl _, Nat.le_refl _⟩ rfl rfl (by decide) d_G_areTwoNodes_10) (fun r2 S' hp2 => ?_)
    obtain ⟨rfl, hp2⟩ := hp2
    refine g_if_eq (tgt := 25) C d_G_areTwoNodes_13 (by decide) rfl (by omega) (fun h13 => ?_) (fun h13 => ?_)
    · refine g_iconst (z := 0) C d_G_areTwoNodes_25 rfl rfl ?_
      refine g_zret C hr hk (by omega) d_G_areTwoNodes_26 ⟨_, rfl, ?_⟩
      exact ⟨rfl, by omega⟩
    · refine g_iload_n C d_G_areTwoNodes_16 rfl rfl ?_
      refine g_iload_n C d_G_areTwoNodes_17 rfl rfl ?_
      refine g_icmp_eq (tgt := 25) C d_G_areTwoNodes_18 (by decide) rfl (by omega) (by omega) (fun h18 => ?_) (fun h18 => ?_)
      · refine g_iconst (z := 0) C d_G_areTwoNodes_25 rfl rfl ?_
        refine g_zret C hr hk (by omega) d_G_areTwoNodes_26 ⟨_, rfl, ?_⟩
        exact ⟨rfl, by omega⟩
      · refine g_iconst (z := 1) C d_G_areTwoNodes_21 rfl rfl ?_
        refine g_goto (tgt := 26) C d_G_areTwoNodes_22 (by decide) ?_
        refine g_zret C hr hk (by omega) d_G_areTwoNodes_26 ⟨_, rfl, ?_⟩
        exact ⟨rfl, by omega⟩

set_option maxRecDepth 100000 in
set_option maxHeartbeats 4000000 in
theorem m_G_addNode {l : Launch} {D : va_G} {a : Nat → Nat} {ki kz kl kq : ClassId} {S : Nat → Int → Int}  (hn : 0 ≤ S 0 0 ∧ S 0 0 ≤ 8) : MX l D a ki kz kl kq y_G_addNode b_G_addNode 1 (some .int) rm_G_addNode [.ref (a 1)] S (pI fun r S' => (S 0 0 = 8 ∧ r = -3 ∧ S' = S) ∨ (S 0 0 < 8 ∧ r = S 0 0 ∧ S' = us S 0 0 (S 0 0 + 1))) := by
  refine MM.go b_G_addNode 1 (some .int) "NextPaths$Graph" [(0, .ref (a 1))] (by decide) rfl rfl (Nat.le_of_ble_eq_true rfl) ?_
  intro p e s m args below meth c C hr hk
  refine g_aload_n C d_G_addNode_0 rfl rfl ?_
  refine g_get C 1 0 i_G wX_1 rfl (by decide) k_G_36 rfl rfl d_G_addNode_1 rfl ?_
  refine g_bipush (z := 8) C d_G_addNode_4 rfl (by decide) ?_
  refine g_icmp_lt (tgt := 12) C d_G_addNode_6 (by decide) rfl (by omega) (by omega) (fun h6 => ?_) (fun h6 => ?_)
  · refine g_aload_n C d_G_addNode_12 rfl rfl ?_
    refine g_dup C d_G_addNode_13 rfl rfl ?_
    refine g_get C 1 0 i_G wX_1 rfl (by decide) k_G_36 rfl rfl d_G_addNode_14 rfl ?_
    refine g_iconst (z := 1) C d_G_addNode_17 rfl rfl ?_
    refine g_iadd C d_G_addNode_18 rfl rfl ?_
    refine g_put (ty := .int) C 1 0 ty_G i_G ty_G_ok n_G wX_1 rfl (by decide) k_G_36 rfl rfl (by decide +kernel) rfl rfl (Nat.le_of_ble_eq_true rfl) wX_p1_0 d_G_addNode_19 rfl ?_
    refine g_aload_n C d_G_addNode_22 rfl rfl ?_
    refine g_get C 1 0 i_G wX_1 rfl (by decide) k_G_36 rfl rfl d_G_addNode_23 rfl ?_
    refine g_iconst (z := 1) C d_G_addNode_26 rfl rfl ?_
    refine g_isub C d_G_addNode_27 rfl rfl ?_
    refine g_iret C hr hk d_G_addNode_28 ⟨_, rfl, ?_⟩
    exact Or.inr ⟨by omega, by simp [us, up_], rfl⟩
  · refine g_bipush (z := (-3)) C d_G_addNode_9 rfl (by decide) ?_
    refine g_iret C hr hk d_G_addNode_11 ⟨_, rfl, ?_⟩
    exact Or.inl ⟨by omega, rfl, rfl⟩

