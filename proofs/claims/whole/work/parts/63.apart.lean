/-! the class: what was told, what is apart -/
set_option maxRecDepth 100000 in
set_option maxHeartbeats 4000000 in
theorem m_N_pair {l : Launch} {D : va_G} {a : Nat → Nat} {ki kz kl kq : ClassId} {S : Nat → Int → Int} {i w : Int} (h36 : 0 ≤ S 36 0 ∧ S 36 0 ≤ 1458) (hi : r32 i) (hw : r32 w) : MX l D a ki kz kl kq y_N_pair b_N_pair 3 (some .int) rm_N_pair [.ref (a 0), .int (iI i), .int (iI w)] S (pI fun r S' => S' = S ∧ (((0 ≤ i ∧ i < S 36 0) ∧ w = 0 ∧ r = S 34 i) ∨ ((0 ≤ i ∧ i < S 36 0) ∧ w = 1 ∧ r = S 35 i) ∨ (¬ ((0 ≤ i ∧ i < S 36 0) ∧ (w = 0 ∨ w = 1)) ∧ r = -2))) := by
  refine MM.go b_N_pair 3 (some .int) "NextPaths" [(0, .ref (a 0)), (1, .int (iI i)), (2, .int (iI w))] (by decide) rfl rfl (Nat.le_of_ble_eq_true rfl) ?_
  intro p e s m args below meth c C hr hk
  refine g_iload_n C d_N_pair_0 rfl rfl ?_
  refine g_iconst (z := 0) C d_N_pair_1 rfl rfl ?_
  refine g_aload_n C d_N_pair_2 rfl rfl ?_
  refine g_get C 0 5 i_N wX_0 rfl (by decide) k_N_51 rfl rfl d_N_pair_3 rfl ?_
  refine g_getN C 24 2 i_B wX_24 rfl (by decide) k_N_132 rfl rfl d_N_pair_6 rfl ?_
  refine g_iconst (z := 1) C d_N_pair_9 rfl rfl ?_
  refine g_isub C d_N_pair_10 rfl rfl ?_
  refine g_runI (wX_fix a ki kz kl kq) rfl (rn_S C (m_N_liesIn hi (by decide) (by omega)) 3 kc_N_liesIn k_N_94 ks_N_liesIn kn_N hy_N_liesIn ⟨rfl, rfl⟩ ⟨by decide, by decide⟩ ⟨Nat.le_refl _, Nat.le_refl _⟩ rfl rfl (Nat.le_of_ble_eq_true rfl) d_N_pair_11) (fun r1 S1 hp1 => ?_)
  obtain ⟨hS1, hp1⟩ := hp1
  refine GG.at hS1 ?_
  refine g_if_ne (tgt := 20) C d_N_pair_14 (by decide) rfl (by omega) (fun h14 => ?_) (fun h14 => ?_)
  · refine g_iload_n C d_N_pair_20 rfl rfl ?_
    rcases (show w = 0 ∨ w = 1 ∨ (w ≠ 0 ∧ w ≠ 1) by omega) with h21 | h21 | h21
    · refine g_lsw (off := 27) (tgt := 48) C d_N_pair_21 (by decide) (by omega) (by rw [h21]; rfl) (by decide) ?_
      refine g_aload_n C d_N_pair_48 rfl rfl ?_
      refine g_get C 0 5 i_N wX_0 rfl (by decide) k_N_51 rfl rfl d_N_pair_49 rfl ?_
      refine g_getN C 24 0 i_B wX_24 rfl (by decide) k_N_133 rfl rfl d_N_pair_52 rfl ?_
      refine g_iload_n C d_N_pair_55 rfl rfl ?_
      refine g_iald C 25 0 wX_25 rfl (by omega) (by omega) (by decide) d_N_pair_56 rfl ?_
      refine g_iret C hr hk d_N_pair_57 ⟨_, rfl, ?_⟩
      exact ⟨rfl, Or.inl ⟨by omega, by omega, rfl⟩⟩
    · refine g_lsw (off := 37) (tgt := 58) C d_N_pair_21 (by decide) (by omega) (by rw [h21]; rfl) (by decide) ?_
      refine g_aload_n C d_N_pair_58 rfl rfl ?_
      refine g_get C 0 5 i_N wX_0 rfl (by decide) k_N_51 rfl rfl d_N_pair_59 rfl ?_
      refine g_getN C 24 1 i_B wX_24 rfl (by decide) k_N_136 rfl rfl d_N_pair_62 rfl ?_
      refine g_iload_n C d_N_pair_65 rfl rfl ?_
      refine g_iald C 26 0 wX_26 rfl (by omega) (by omega) (by decide) d_N_pair_66 rfl ?_
      refine g_iret C hr hk d_N_pair_67 ⟨_, rfl, ?_⟩
      exact ⟨rfl, Or.inr (Or.inl ⟨by omega, by omega, rfl⟩)⟩
    · refine g_lsw (off := 47) (tgt := 68) C d_N_pair_21 (by decide) (by omega) (by simp [Op.lookupswitch.offset]; rw [if_neg (by omega), if_neg (by omega)]) (by decide) ?_
      refine g_bipush (z := (-2)) C d_N_pair_68 rfl (by decide) ?_
      refine g_iret C hr hk d_N_pair_70 ⟨_, rfl, ?_⟩
      exact ⟨rfl, Or.inr (Or.inr ⟨by omega, rfl⟩)⟩
  · refine g_bipush (z := (-2)) C d_N_pair_17 rfl (by decide) ?_
    refine g_iret C hr hk d_N_pair_19 ⟨_, rfl, ?_⟩
    exact ⟨rfl, Or.inr (Or.inr ⟨by omega, rfl⟩)⟩

set_option maxRecDepth 100000 in
set_option maxHeartbeats 4000000 in
theorem m_N_step {l : Launch} {D : va_G} {a : Nat → Nat} {ki kz kl kq : ClassId} {S : Nat → Int → Int} {i : Int} (h31 : 0 ≤ S 31 0 ∧ S 31 0 ≤ 7) (hi : r32 i) : MX l D a ki kz kl kq y_N_step b_N_step 2 (some .int) rm_N_step [.ref (a 0), .int (iI i)] S (pI fun r S' => S' = S ∧ (((0 ≤ i ∧ i < S 31 0) ∧ r = S 30 i) ∨ (¬ (0 ≤ i ∧ i < S 31 0) ∧ r = -2))) := by
  refine MM.go b_N_step 2 (some .int) "NextPaths" [(0, .ref (a 0)), (1, .int (iI i))] (by decide) rfl rfl (Nat.le_of_ble_eq_true rfl) ?_
  intro p e s m args below meth c C hr hk
  refine g_iload_n C d_N_step_0 rfl rfl ?_
  refine g_iconst (z := 0) C d_N_step_1 rfl rfl ?_
  refine g_aload_n C d_N_step_2 rfl rfl ?_
  refine g_get C 0 4 i_N wX_0 rfl (by decide) k_N_44 rfl rfl d_N_step_3 rfl ?_
  refine g_getN C 22 1 i_T wX_22 rfl (by decide) k_N_139 rfl rfl d_N_step_6 rfl ?_
  refine g_iconst (z := 1) C d_N_step_9 rfl rfl ?_
  refine g_isub C d_N_step_10 rfl rfl ?_
  refine g_runI (wX_fix a ki kz kl kq) rfl (rn_S C (m_N_liesIn hi (by decide) (by omega)) 3 kc_N_liesIn k_N_94 ks_N_liesIn kn_N hy_N_liesIn ⟨rfl, rfl⟩ ⟨by decide, by decide⟩ ⟨Nat.le_refl _, Nat.le_refl _⟩ rfl rfl (Nat.le_of_ble_eq_true rfl) d_N_step_11) (fun r1 S1 hp1 => ?_)
  obtain ⟨hS1, hp1⟩ := hp1
  refine GG.at hS1 ?_
  refine g_if_eq (tgt := 29) C d_N_step_14 (by decide) rfl (by omega) (fun h14 => ?_) (fun h14 => ?_)
  · refine g_bipush (z := (-2)) C d_N_step_29 rfl (by decide) ?_
    refine g_iret C hr hk d_N_step_31 ⟨_, rfl, ?_⟩
    first
      | exact ⟨rfl, Or.inl ⟨by omega, rfl⟩⟩
      | exact ⟨rfl, Or.inr ⟨by omega, rfl⟩⟩
  · refine g_aload_n C d_N_step_17 rfl rfl ?_
    refine g_get C 0 4 i_N wX_0 rfl (by decide) k_N_44 rfl rfl d_N_step_18 rfl ?_
    refine g_getN C 22 0 i_T wX_22 rfl (by decide) k_N_142 rfl rfl d_N_step_21 rfl ?_
    refine g_iload_n C d_N_step_24 rfl rfl ?_
    refine g_iald C 23 0 wX_23 rfl (by omega) (by omega) (by decide) d_N_step_25 rfl ?_
    refine g_goto (tgt := 31) C d_N_step_26 (by decide) ?_
    refine g_iret C hr hk d_N_step_31 ⟨_, rfl, ?_⟩
    first
      | exact ⟨rfl, Or.inl ⟨by omega, rfl⟩⟩
      | exact ⟨rfl, Or.inr ⟨by omega, rfl⟩⟩

set_option maxRecDepth 100000 in
set_option maxHeartbeats 4000000 in
theorem m_N_sum {l : Launch} {D : va_G} {a : Nat → Nat} {ki kz kl kq : ClassId} {S : Nat → Int → Int} {w : Int} (h31 : 0 ≤ S 31 0 ∧ S 31 0 ≤ 7) (hw : r32 w) : MX l D a ki kz kl kq y_N_sum b_N_sum 2 (some .int) rm_N_sum [.ref (a 0), .int (iI w)] S (pI fun r S' => S' = S ∧ ((¬ (0 ≤ w ∧ w ≤ 2) ∧ r = -2) ∨ ((0 ≤ w ∧ w ≤ 2) ∧ ((S 31 0 = 0 ∧ r = -1) ∨ (S 31 0 ≠ 0 ∧ ((w = 0 ∧ r = S 32 0) ∨ (w = 1 ∧ r = S 33 0) ∨ (w = 2 ∧ r = S 31 0))))))) := by
  refine MM.go b_N_sum 2 (some .int) "NextPaths" [(0, .ref (a 0)), (1, .int (iI w))] (by decide) rfl rfl (Nat.le_of_ble_eq_true rfl) ?_
  intro p e s m args below meth c C hr hk
  refine g_iload_n C d_N_sum_0 rfl rfl ?_
  refine g_iconst (z := 0) C d_N_sum_1 rfl rfl ?_
  refine g_iconst (z := 2) C d_N_sum_2 rfl rfl ?_
  refine g_runI (wX_fix a ki kz kl kq) rfl (rn_S C (m_N_liesIn hw (by decide) (by decide)) 3 kc_N_liesIn k_N_94 ks_N_liesIn kn_N hy_N_liesIn ⟨rfl, rfl⟩ ⟨by decide, by decide⟩ ⟨Nat.le_refl _, Nat.le_refl _⟩ rfl rfl (Nat.le_of_ble_eq_true rfl) d_N_sum_3) (fun r1 S1 hp1 => ?_)
  obtain ⟨hS1, hp1⟩ := hp1
  refine GG.at hS1 ?_
  refine g_if_ne (tgt := 12) C d_N_sum_6 (by decide) rfl (by omega) (fun h6 => ?_) (fun h6 => ?_)
  · refine g_aload_n C d_N_sum_12 rfl rfl ?_
    refine g_get C 0 4 i_N wX_0 rfl (by decide) k_N_44 rfl rfl d_N_sum_13 rfl ?_
    refine g_getN C 22 1 i_T wX_22 rfl (by decide) k_N_139 rfl rfl d_N_sum_16 rfl ?_
    refine g_if_ne (tgt := 24) C d_N_sum_19 (by decide) rfl (by omega) (fun h19 => ?_) (fun h19 => ?_)
    · refine g_iload_n C d_N_sum_24 rfl rfl ?_
      rcases (show w = 0 ∨ w = 1 ∨ (w ≠ 0 ∧ w ≠ 1) by omega) with h25 | h25 | h25
      · refine g_lsw (off := 27) (tgt := 52) C d_N_sum_25 (by decide) (by omega) (by rw [h25]; rfl) (by decide) ?_
        refine g_aload_n C d_N_sum_52 rfl rfl ?_
        refine g_get C 0 4 i_N wX_0 rfl (by decide) k_N_44 rfl rfl d_N_sum_53 rfl ?_
        refine g_getN C 22 2 i_T wX_22 rfl (by decide) k_N_145 rfl rfl d_N_sum_56 rfl ?_
        refine g_iret C hr hk d_N_sum_59 ⟨_, rfl, ?_⟩
        exact ⟨rfl, Or.inr ⟨by omega, Or.inr ⟨by omega, Or.inl ⟨by omega, rfl⟩⟩⟩⟩
      · refine g_lsw (off := 35) (tgt := 60) C d_N_sum_25 (by decide) (by omega) (by rw [h25]; rfl) (by decide) ?_
        refine g_aload_n C d_N_sum_60 rfl rfl ?_
        refine g_get C 0 4 i_N wX_0 rfl (by decide) k_N_44 rfl rfl d_N_sum_61 rfl ?_
        refine g_getN C 22 3 i_T wX_22 rfl (by decide) k_N_147 rfl rfl d_N_sum_64 rfl ?_
        refine g_iret C hr hk d_N_sum_67 ⟨_, rfl, ?_⟩
        exact ⟨rfl, Or.inr ⟨by omega, Or.inr ⟨by omega, Or.inr (Or.inl ⟨by omega, rfl⟩)⟩⟩⟩
      · refine g_lsw (off := 43) (tgt := 68) C d_N_sum_25 (by decide) (by omega) (by simp [Op.lookupswitch.offset]; rw [if_neg (by omega), if_neg (by omega)]) (by decide) ?_
        refine g_aload_n C d_N_sum_68 rfl rfl ?_
        refine g_get C 0 4 i_N wX_0 rfl (by decide) k_N_44 rfl rfl d_N_sum_69 rfl ?_
        refine g_getN C 22 1 i_T wX_22 rfl (by decide) k_N_139 rfl rfl d_N_sum_72 rfl ?_
        refine g_iret C hr hk d_N_sum_75 ⟨_, rfl, ?_⟩
        exact ⟨rfl, Or.inr ⟨by omega, Or.inr ⟨by omega, Or.inr (Or.inr ⟨by omega, rfl⟩)⟩⟩⟩
    · refine g_iconst (z := (-1)) C d_N_sum_22 rfl rfl ?_
      refine g_iret C hr hk d_N_sum_23 ⟨_, rfl, ?_⟩
      exact ⟨rfl, Or.inr ⟨by omega, Or.inl ⟨by omega, rfl⟩⟩⟩
  · refine g_bipush (z := (-2)) C d_N_sum_9 rfl (by decide) ?_
    refine g_iret C hr hk d_N_sum_11 ⟨_, rfl, ?_⟩
    exact ⟨rfl, Or.inl ⟨by omega, rfl⟩⟩

/-- what is told of an arc -/
def arT (S : Nat → Int → Int) (k w : Int) : Int := if w = 0 then S 2 k else if w = 1 then S 3 k else if w = 2 then S 4 k else if w = 3 then S 5 k else S 6 k

set_option maxRecDepth 100000 in
set_option maxHeartbeats 4000000 in
theorem m_N_told {l : Launch} {D : va_G} {a : Nat → Nat} {ki kz kl kq : ClassId} {S : Nat → Int → Int} {k w : Int} (hG : GIs S) (hk0 : r32 k) (hw : r32 w) : MX l D a ki kz kl kq y_N_told b_N_told 3 (some .int) rm_N_told [.ref (a 0), .int (iI k), .int (iI w)] S (pI fun r S' => S' = S ∧ ((¬ ((0 ≤ k ∧ k < S 1 0) ∧ 0 ≤ w ∧ w ≤ 4) ∧ r = -2) ∨ (((0 ≤ k ∧ k < S 1 0) ∧ 0 ≤ w ∧ w ≤ 4) ∧ r = arT S k w))) := by
  refine MM.go b_N_told 3 (some .int) "NextPaths" [(0, .ref (a 0)), (1, .int (iI k)), (2, .int (iI w))] (by decide) rfl rfl (Nat.le_of_ble_eq_true rfl) ?_
  intro p e s m args below meth c C hr hk
  have hn20 := hG.2.1
  have h01 := (hG.2.2.1.2.2.1 k).2.2.2.2.2.2.2.2
  refine g_aload_n C d_N_told_0 rfl rfl ?_
  refine g_get C 0 0 i_N wX_0 rfl (by decide) k_N_12 rfl rfl d_N_told_1 rfl ?_
  refine g_iload_n C d_N_told_4 rfl rfl ?_
  refine g_runI (wX_fix a ki kz kl kq) rfl (rn_VN C (m_G_isArc hk0 hG.2.1) 1 1 wX_1 rfl rfl kc_G_isArc k_N_80 ki_G_isArc kx_G_isArc kn_G hy_G_isArc ⟨rfl, rfl⟩ ⟨by decide, by decide⟩ ⟨Nat.le_refl _, Nat.le_refl _⟩ rfl rfl (Nat.le_of_ble_eq_true rfl) d_N_told_5) (fun r1 S1 hp1 => ?_)
  obtain ⟨hS1, hp1⟩ := hp1
  refine GG.at hS1 ?_
  refine g_if_ne (tgt := 14) C d_N_told_8 (by decide) rfl (by omega) (fun h8 => ?_) (fun h8 => ?_)
  · refine g_iload_n C d_N_told_14 rfl rfl ?_
    rcases (show w = 0 ∨ w = 1 ∨ w = 2 ∨ w = 3 ∨ w = 4 ∨ (w < 0 ∨ 4 < w) by omega) with h15 | h15 | h15 | h15 | h15 | h15
    · refine g_tin (off := 33) (tgt := 48) C h15 d_N_told_15 (by decide) (by decide) (by decide) rfl (by decide) ?_
      refine g_aload_n C d_N_told_48 rfl rfl ?_
      refine g_get C 0 0 i_N wX_0 rfl (by decide) k_N_12 rfl rfl d_N_told_49 rfl ?_
      refine g_getN C 1 2 i_G wX_1 rfl (by decide) k_N_149 rfl rfl d_N_told_52 rfl ?_
      refine g_iload_n C d_N_told_55 rfl rfl ?_
      refine g_iald C 2 0 wX_2 rfl (by omega) (by omega) (by decide) d_N_told_56 rfl ?_
      refine g_iret C hr hk d_N_told_57 ⟨_, rfl, ?_⟩
      exact ⟨rfl, Or.inr ⟨by omega, by rw [h15]; rfl⟩⟩
    · refine g_tin (off := 43) (tgt := 58) C h15 d_N_told_15 (by decide) (by decide) (by decide) rfl (by decide) ?_
      refine g_aload_n C d_N_told_58 rfl rfl ?_
      refine g_get C 0 0 i_N wX_0 rfl (by decide) k_N_12 rfl rfl d_N_told_59 rfl ?_
      refine g_getN C 1 3 i_G wX_1 rfl (by decide) k_N_152 rfl rfl d_N_told_62 rfl ?_
      refine g_iload_n C d_N_told_65 rfl rfl ?_
      refine g_iald C 3 0 wX_3 rfl (by omega) (by omega) (by decide) d_N_told_66 rfl ?_
      refine g_iret C hr hk d_N_told_67 ⟨_, rfl, ?_⟩
      exact ⟨rfl, Or.inr ⟨by omega, by rw [h15]; rfl⟩⟩
    · refine g_tin (off := 53) (tgt := 68) C h15 d_N_told_15 (by decide) (by decide) (by decide) rfl (by decide) ?_
      refine g_aload_n C d_N_told_68 rfl rfl ?_
      refine g_get C 0 0 i_N wX_0 rfl (by decide) k_N_12 rfl rfl d_N_told_69 rfl ?_
      refine g_getN C 1 4 i_G wX_1 rfl (by decide) k_N_83 rfl rfl d_N_told_72 rfl ?_
      refine g_iload_n C d_N_told_75 rfl rfl ?_
      refine g_iald C 4 0 wX_4 rfl (by omega) (by omega) (by decide) d_N_told_76 rfl ?_
      refine g_iret C hr hk d_N_told_77 ⟨_, rfl, ?_⟩
      exact ⟨rfl, Or.inr ⟨by omega, by rw [h15]; rfl⟩⟩
    · refine g_tin (off := 63) (tgt := 78) C h15 d_N_told_15 (by decide) (by decide) (by decide) rfl (by decide) ?_
      refine g_aload_n C d_N_told_78 rfl rfl ?_
      refine g_get C 0 0 i_N wX_0 rfl (by decide) k_N_12 rfl rfl d_N_told_79 rfl ?_
      refine g_getN C 1 5 i_G wX_1 rfl (by decide) k_N_87 rfl rfl d_N_told_82 rfl ?_
      refine g_iload_n C d_N_told_85 rfl rfl ?_
      refine g_iald C 5 0 wX_5 rfl (by omega) (by omega) (by decide) d_N_told_86 rfl ?_
      refine g_iret C hr hk d_N_told_87 ⟨_, rfl, ?_⟩
      exact ⟨rfl, Or.inr ⟨by omega, by rw [h15]; rfl⟩⟩
    · refine g_tin (off := 73) (tgt := 88) C h15 d_N_told_15 (by decide) (by decide) (by decide) rfl (by decide) ?_
      refine g_aload_n C d_N_told_88 rfl rfl ?_
      refine g_get C 0 0 i_N wX_0 rfl (by decide) k_N_12 rfl rfl d_N_told_89 rfl ?_
      refine g_getN C 1 6 i_G wX_1 rfl (by decide) k_N_90 rfl rfl d_N_told_92 rfl ?_
      refine g_iload_n C d_N_told_95 rfl rfl ?_
      refine g_zald C 6 1 wX_6 rfl (by omega) (by omega) (by decide) d_N_told_96 rfl ?_
      refine g_if_eq (tgt := 104) C d_N_told_97 (by decide) rfl (by omega) (fun h97 => ?_) (fun h97 => ?_)
      · refine g_iconst (z := 0) C d_N_told_104 rfl rfl ?_
        refine g_iret C hr hk d_N_told_105 ⟨_, rfl, ?_⟩
        exact ⟨rfl, Or.inr ⟨by omega, by rw [h15]; show _ = S 6 k; omega⟩⟩
      · refine g_iconst (z := 1) C d_N_told_100 rfl rfl ?_
        refine g_goto (tgt := 105) C d_N_told_101 (by decide) ?_
        refine g_iret C hr hk d_N_told_105 ⟨_, rfl, ?_⟩
        exact ⟨rfl, Or.inr ⟨by omega, by rw [h15]; show _ = S 6 k; omega⟩⟩
    · refine g_tout (tgt := 106) C h15 d_N_told_15 (by omega) (by decide) ?_
      refine g_bipush (z := (-2)) C d_N_told_106 rfl (by decide) ?_
      refine g_iret C hr hk d_N_told_108 ⟨_, rfl, ?_⟩
      exact ⟨rfl, Or.inl ⟨by omega, rfl⟩⟩
  · refine g_bipush (z := (-2)) C d_N_told_11 rfl (by decide) ?_
    refine g_iret C hr hk d_N_told_13 ⟨_, rfl, ?_⟩
    exact ⟨rfl, Or.inl ⟨by omega, rfl⟩⟩

set_option maxRecDepth 100000 in
set_option maxHeartbeats 4000000 in
theorem m_N_of {l : Launch} {D : va_G} {a : Nat → Nat} {ki kz kl kq : ClassId} {S : Nat → Int → Int} {w : Int} (hG : GIs S) (hw : r32 w) : MX l D a ki kz kl kq y_N_of b_N_of 2 (some .int) rm_N_of [.ref (a 0), .int (iI w)] S (pI fun r S' => S' = S ∧ ((w = 0 ∧ r = S 0 0) ∨ (w = 1 ∧ r = S 1 0) ∨ (w = 2 ∧ r = sm (S 6) (S 1 0).toNat) ∨ (¬ (0 ≤ w ∧ w ≤ 2) ∧ r = -2))) := by
  refine MM.go b_N_of 2 (some .int) "NextPaths" [(0, .ref (a 0)), (1, .int (iI w))] (by decide) rfl rfl (Nat.le_of_ble_eq_true rfl) ?_
  intro p e s m args below meth c C hr hk
  refine g_iload_n C d_N_of_0 rfl rfl ?_
  rcases (show w = 0 ∨ w = 1 ∨ w = 2 ∨ (w < 0 ∨ 2 < w) by omega) with h1 | h1 | h1 | h1
  · refine g_tin (off := 27) (tgt := 28) C h1 d_N_of_1 (by decide) (by decide) (by decide) rfl (by decide) ?_
    refine g_aload_n C d_N_of_28 rfl rfl ?_
    refine g_get C 0 0 i_N wX_0 rfl (by decide) k_N_12 rfl rfl d_N_of_29 rfl ?_
    refine g_getN C 1 0 i_G wX_1 rfl (by decide) k_N_155 rfl rfl d_N_of_32 rfl ?_
    refine g_iret C hr hk d_N_of_35 ⟨_, rfl, ?_⟩
    exact ⟨rfl, Or.inl ⟨h1, rfl⟩⟩
  · refine g_tin (off := 35) (tgt := 36) C h1 d_N_of_1 (by decide) (by decide) (by decide) rfl (by decide) ?_
    refine g_aload_n C d_N_of_36 rfl rfl ?_
    refine g_get C 0 0 i_N wX_0 rfl (by decide) k_N_12 rfl rfl d_N_of_37 rfl ?_
    refine g_getN C 1 1 i_G wX_1 rfl (by decide) k_N_55 rfl rfl d_N_of_40 rfl ?_
    refine g_iret C hr hk d_N_of_43 ⟨_, rfl, ?_⟩
    exact ⟨rfl, Or.inr (Or.inl ⟨h1, rfl⟩)⟩
  · refine g_tin (off := 43) (tgt := 44) C h1 d_N_of_1 (by decide) (by decide) (by decide) rfl (by decide) ?_
    refine g_aload_n C d_N_of_44 rfl rfl ?_
    refine g_get C 0 0 i_N wX_0 rfl (by decide) k_N_12 rfl rfl d_N_of_45 rfl ?_
    refine g_runI (wX_fix a ki kz kl kq) rfl (rn_VN C (m_G_shutArcs hG.2.1 (fun k => (hG.2.2.1.2.2.1 k).2.2.2.2.2.2.2.2)) 1 0 wX_1 rfl rfl kc_G_shutArcs k_N_158 ki_G_shutArcs kx_G_shutArcs kn_G hy_G_shutArcs ⟨rfl, rfl⟩ ⟨by decide, by decide⟩ ⟨Nat.le_refl _, Nat.le_refl _⟩ rfl rfl (Nat.le_of_ble_eq_true rfl) d_N_of_48) (fun r1 S1 hp1 => ?_)
    obtain ⟨hS1, hp1⟩ := hp1
    refine GG.at hS1 ?_
    refine g_iret C hr hk d_N_of_51 ⟨_, rfl, ?_⟩
    exact ⟨rfl, Or.inr (Or.inr (Or.inl ⟨h1, hp1⟩))⟩
  · refine g_tout (tgt := 52) C h1 d_N_of_1 (by omega) (by decide) ?_
    refine g_bipush (z := (-2)) C d_N_of_52 rfl (by decide) ?_
    refine g_iret C hr hk d_N_of_54 ⟨_, rfl, ?_⟩
    exact ⟨rfl, Or.inr (Or.inr (Or.inr ⟨by omega, rfl⟩))⟩

/-- no cut is below m; a cut is no more than m -/
def cuL (S : Nat → Int → Int) (u b y m : Int) : Prop := (y ≠ 1 → ∀ f : Int → Bool, f u = true → f b = false → m ≤ ou (S 1 0).toNat (S 2) (S 3) (S 6) f) ∧ (y = 1 → ∀ f g : Int → Bool, clo (S 1 0).toNat (S 2) (S 3) (S 6) u b f g → f b = false → m ≤ di (S 1 0).toNat (S 2) (S 3) (S 6) u b + mn (S 0 0).toNat f)
def cuG (S : Nat → Int → Int) (u b y m : Int) : Prop := (y ≠ 1 → ∃ f : Int → Bool, f u = true ∧ f b = false ∧ ou (S 1 0).toNat (S 2) (S 3) (S 6) f ≤ m) ∧ (y = 1 → ∃ f g : Int → Bool, f u = false ∧ f b = false ∧ clo (S 1 0).toNat (S 2) (S 3) (S 6) u b f g ∧ di (S 1 0).toNat (S 2) (S 3) (S 6) u b + mn (S 0 0).toNat f ≤ m)
theorem cu_le {S : Nat → Int → Int} {u b y m m' : Int} (h : cuL S u b y m) (h' : cuG S u b y m') : m ≤ m' := by
  by_cases e : y = 1
  · obtain ⟨f, g, -, h2, h3, h4⟩ := h'.2 e
    exact Int.le_trans (h.2 e f g h3 h2) h4
  · obtain ⟨f, h1, h2, h4⟩ := h'.1 e
    exact Int.le_trans (h.1 e f h1 h2) h4
abbrev cap (y : Int) : Int := if y = 1 then 1 else 20
theorem FJ_cuL {S : Nat → Int → Int} {u b y kp tot : Int} (h : FJ S u b (cap y) kp tot) : cuL S u b y kp := by
  obtain ⟨f1, f2, f3, f4, -, -⟩ := h.1
  have hg := ne_gf f1 f4
  have hx := ne_bx f2 f3
  have hy := ne_by f2 f3
  refine ⟨fun e f h1 h2 => cut0_le hg hx hy h1 h2, fun e f g h1 h2 => ?_⟩
  have e2 : cap y = 1 := if_pos e
  rw [e2] at hy
  exact cut1_le hg hx hy h1 h2
theorem FJ_cuG {S : Nat → Int → Int} {u b y kp tot : Int} (hG : GIs S) (hub : u ≠ b) (h : FJ S u b (cap y) kp tot) {R : Int → Bool} (hR : shutR (S 1 0).toNat (S 0 0).toNat (S 2) (S 3) (fx (S 6) (S 24)) (fy (S 1 0).toNat (S 6) u b (S 24)) (ua (S 6)) (zn u b (cap y)) R) (h1 : R (2 * u + 1) = true) (h2 : R (2 * b) = false) : cuG S u b y kp := by
  obtain ⟨f1, f2, f3, f4, -, -⟩ := h.1
  have hg := ne_gf f1 f4
  have hn := hG.1
  have hn2 := hG.2.1
  have hT : ∀ k : Int, 0 ≤ k → k < (S 1 0).toNat → 0 ≤ S 2 k ∧ S 2 k < (S 0 0).toNat ∧ 0 ≤ S 3 k ∧ S 3 k < (S 0 0).toNat := fun k k0 k1 => by
    have q1 := hG.2.2.1.2.2.1 k
    have q2 := hG.2.2.1.2.2.2 k k0 k1
    exact ⟨q1.1, q2.1, q1.2.2.1, q2.2.1⟩
  refine ⟨fun e => ?_, fun e => ?_⟩
  · have e2 : cap y = 20 := if_neg e
    exact cut0_ge hub (by rw [e2]; omega) (fun k k0 k1 => (hT k k0 k1).2.2) hg hR h1 h2
  · have e2 : cap y = 1 := if_pos e
    rw [e2] at hR
    exact cut1_ge hub hT hg hR h1 h2
/-- what is apart, as a search -/
theorem FJ_se {S : Nat → Int → Int} {u b y tot : Int} {cn : Nat} (hG : GIs S) (hu : 0 ≤ u ∧ u < S 0 0) (hub : u ≠ b) (h : FJ S u b (cap y) cn tot) (h1 : 1 ≤ cn) (h5 : cn ≤ 5) (cf : List Int → List (List Int) → Bool) (hcf : ∀ P Q, cf P Q = false ↔ ∀ R, R ∈ Q → ap (S 3) y R P) : se (wp (S 4)) cf (spS S u b) cn 0 [] (-1) = tot := by
  have hn := hG.1
  have hn2 := hG.2.1
  refine apart_ok hub (fun k => (hG.2.2.1.2.2.1 k).2.2.2.2.1) (fun k k0 k1 => ⟨(hG.2.2.1.2.2.1 k).2.2.1, (hG.2.2.1.2.2.2 k k0 k1).2.1⟩) h.1 h1 (fun e => ?_) (fun e => if_pos e) (sp_mem hG.2.2.1 (by omega)) (sp_w hG.2.2.1 (by omega)) hcf
  rw [show cap y = 20 from if_neg e]; omega
/-- the same graph: the same cuts -/
theorem eq_cuL {S S' : Nat → Int → Int} {u b y m : Int} (h : eqx [21, 22, 23, 24, 25, 26, 27, 28, 29] S S') (g : cuL S' u b y m) : cuL S u b y m := by
  unfold cuL at *
  rw [h 0 (by decide), h 1 (by decide), h 2 (by decide), h 3 (by decide), h 6 (by decide)] at g
  exact g
theorem eq_cuG {S S' : Nat → Int → Int} {u b y m : Int} (h : eqx [21, 22, 23, 24, 25, 26, 27, 28, 29] S S') (g : cuG S' u b y m) : cuG S u b y m := by
  unfold cuG at *
  rw [h 0 (by decide), h 1 (by decide), h 2 (by decide), h 3 (by decide), h 6 (by decide)] at g
  exact g
theorem eq_GIs {S S' : Nat → Int → Int} (h : eqx [21, 22, 23, 24, 25, 26, 27, 28, 29] S S') (g : GIs S) : GIs S' := GIs_eq (fun k hk => h k (by simp; omega)) g
/-- S2 is S1 but for the rooms: the same flow -/
theorem se_S {S S' : Nat → Int → Int} {u b : Int} (h : eqx [21, 22, 23, 24, 25, 26, 27, 28, 29] S S') : spS S' u b = spS S u b := by
  unfold spS
  rw [h 1 (by decide), h 2 (by decide), h 3 (by decide), h 4 (by decide), h 6 (by decide)]

set_option maxRecDepth 100000 in
set_option maxHeartbeats 4000000 in
theorem lo_N_apart {l : Launch} {D : va_G} {a : Nat → Nat} {ki kz kl kq : ClassId} {p : Program} {e : Env} {s : State} {m : MethodId} {args : Array Value} {below : List Frame} {meth : Method} {c : Code} {S0 : Nat → Int → Int} {u v n y : Int} (hG : GIs S0) (hok : (twoS S0 u v ∧ (1 ≤ n ∧ n ≤ 5) ∧ (0 ≤ y ∧ y ≤ 1))) (C : CX p s m args c b_N_apart 8 "NextPaths" TT D cls (tyz ki kz kl kq)) (hr : meth.sig.returnType = (some .int)) (hk : meth.locks = false) : ∀ (j i : Nat) (S : Nat → Int → Int) (t : Int), i ≤ n.toNat → n.toNat ≤ i + j → (eqx [21, 22, 23, 24, 25, 26, 27, 28, 29] S0 S ∧ FJ S u v (cap y) i t ∧ 0 ≤ t ∧ t ≤ i * 1000000) → GG p l e rm_N_apart s m args below meth c D cls (adr (wX a ki kz kl kq S0)) 8 0 0 (MQ below (QcW D cls (wX a ki kz kl kq) S0 (pI fun r S' => (¬ (twoS S0 u v ∧ (1 ≤ n ∧ n ≤ 5) ∧ (0 ≤ y ∧ y ≤ 1)) ∧ r = -2 ∧ S' = S0) ∨ ((twoS S0 u v ∧ (1 ≤ n ∧ n ≤ 5) ∧ (0 ≤ y ∧ y ≤ 1)) ∧ eqx [21, 22, 23, 24, 25, 26, 27, 28, 29] S0 S' ∧ ((r = -1 ∧ ∃ kp : Int, 0 ≤ kp ∧ kp < n ∧ cuG S0 u v y kp) ∨ (cuL S0 u v y n ∧ ∀ cf : List Int → List (List Int) → Bool, (∀ P Q, cf P Q = false ↔ ∀ R, R ∈ Q → ap (S0 3) y R P) → se (wp (S0 4)) cf (spS S0 u v) n.toNat 0 [] (-1) = r))))) args s 0 0 (adr (wX a ki kz kl kq S0))) (wX a ki kz kl kq) S [(6, .int (iI (i : Int))), (5, .int (iI t)), (0, .ref (a 0)), (1, .int (iI u)), (2, .int (iI v)), (3, .int (iI n)), (4, .int (iI y))] 60 [] := by
  intro j
  induction j with
  | zero =>
    intro i S t hi hk0 hI
    refine g_iload C d_N_apart_60 rfl rfl ?_
    refine g_iload_n C d_N_apart_62 rfl rfl ?_
    refine g_icmp_ge (tgt := 96) C d_N_apart_63 (by decide) rfl (by omega) (by omega) (fun h63 => ?_) (fun h63 => ?_)
    · refine g_iload C d_N_apart_96 rfl rfl ?_
      refine g_iret C hr hk d_N_apart_98 ⟨_, rfl, ?_⟩
      have hin : (i : Int) = n := by omega
      subst hin
      refine Or.inr ⟨hok, hI.1, Or.inr ⟨eq_cuL hI.1 (FJ_cuL hI.2.1), fun cf hcf => ?_⟩⟩
      have h9 := FJ_se (cn := i) (eq_GIs hI.1 hG) (by rw [hI.1 0 (by decide)]; omega) (by omega) hI.2.1 (by omega) (by omega) cf (by rw [hI.1 3 (by decide)]; exact hcf)
      rw [se_S hI.1, hI.1 4 (by decide)] at h9
      exact h9
    · exact absurd h63 (by omega)
  | succ j ih =>
    intro i S t hi hk0 hI
    refine g_iload C d_N_apart_60 rfl rfl ?_
    refine g_iload_n C d_N_apart_62 rfl rfl ?_
    refine g_icmp_ge (tgt := 96) C d_N_apart_63 (by decide) rfl (by omega) (by omega) (fun h63 => ?_) (fun h63 => ?_)
    · refine g_iload C d_N_apart_96 rfl rfl ?_
      refine g_iret C hr hk d_N_apart_98 ⟨_, rfl, ?_⟩
      have hin : (i : Int) = n := by omega
      subst hin
      refine Or.inr ⟨hok, hI.1, Or.inr ⟨eq_cuL hI.1 (FJ_cuL hI.2.1), fun cf hcf => ?_⟩⟩
      have h9 := FJ_se (cn := i) (eq_GIs hI.1 hG) (by rw [hI.1 0 (by decide)]; omega) (by omega) hI.2.1 (by omega) (by omega) cf (by rw [hI.1 3 (by decide)]; exact hcf)
      rw [se_S hI.1, hI.1 4 (by decide)] at h9
      exact h9
    · refine g_aload_n C d_N_apart_66 rfl rfl ?_
      refine g_get C 0 3 i_N wX_0 rfl (by decide) k_N_37 rfl rfl d_N_apart_67 rfl ?_
      refine g_runI (wX_fix a ki kz kl kq) rfl (rn_VN C (m_F_addPath (eq_GIs hI.1 hG) (by rw [hI.1 0 (by decide)]; omega) (by rw [hI.1 0 (by decide)]; omega) (by omega) (by omega) hI.2.1) 27 0 wX_27 rfl rfl kc_F_addPath k_N_117 ki_F_addPath kx_F_addPath kn_F hy_F_addPath ⟨rfl, rfl⟩ ⟨by decide, by decide⟩ ⟨Nat.le_refl _, Nat.le_refl _⟩ rfl rfl (Nat.le_of_ble_eq_true rfl) d_N_apart_70) (fun r5 S5 hp5 => ?_)
      have hr5 : r32 r5 := by rcases hp5.2 with q | q <;> omega
      refine g_nm (fun x7 e_x7 => ?_)
      refine g_istore (lv' := [(7, .int (iI x7)), (6, .int (iI (i : Int))), (5, .int (iI t)), (0, .ref (a 0)), (1, .int (iI u)), (2, .int (iI v)), (3, .int (iI n)), (4, .int (iI y))]) C d_N_apart_73 (by decide) rfl rfl ?_
      refine g_iload C d_N_apart_75 rfl rfl ?_
      refine g_iconst (z := (-1)) C d_N_apart_77 rfl rfl ?_
      refine g_icmp_ne (tgt := 83) C d_N_apart_78 (by decide) rfl (by omega) (by decide) (fun h78 => ?_) (fun h78 => ?_)
      · refine g_iload C d_N_apart_83 rfl rfl ?_
        refine g_iload C d_N_apart_85 rfl rfl ?_
        refine g_iadd C d_N_apart_87 rfl rfl ?_
        refine g_nm (fun t2 e_t2 => ?_)
        refine g_istore (lv' := [(5, .int (iI t2)), (7, .int (iI x7)), (6, .int (iI (i : Int))), (0, .ref (a 0)), (1, .int (iI u)), (2, .int (iI v)), (3, .int (iI n)), (4, .int (iI y))]) C d_N_apart_88 (by decide) rfl rfl ?_
        obtain ⟨i2, e_i2⟩ : ∃ z : Int, z = (i : Int) + 1 := ⟨_, rfl⟩
        refine g_iinc (q := 2) (z := i2) (lv' := [(6, .int (iI i2)), (5, .int (iI t2)), (7, .int (iI x7)), (0, .ref (a 0)), (1, .int (iI u)), (2, .int (iI v)), (3, .int (iI n)), (4, .int (iI y))]) C d_N_apart_90 rfl e_i2.symm (by decide) rfl rfl ?_
        refine g_goto (tgt := 60) C d_N_apart_93 (by decide) ?_
        have hq : (0 ≤ r5 ∧ r5 < 1000000) ∧ FJ S5 u v (cap y) ((i : Int) + 1) (t + r5) := by
          rcases hp5.2 with q | q
          · exact absurd q.1 (by omega)
          · exact q
        refine GG.lvs (lv' := [(6, .int (iI ((i + 1 : Nat) : Int))), (5, .int (iI (t + r5))), (0, .ref (a 0)), (1, .int (iI u)), (2, .int (iI v)), (3, .int (iI n)), (4, .int (iI y))]) (by rw [show i2 = ((i + 1 : Nat) : Int) by omega, show t2 = t + r5 by omega]; simp [lk]) ?_
        exact ih (i + 1) _ _ (by omega) (by omega) ⟨eqx_tr hI.1 (eqx_mono hp5.1 (by simp)), (by rw [show ((i + 1 : Nat) : Int) = (i : Int) + 1 by omega]; exact hq.2), by omega, by omega⟩
      · refine g_iconst (z := (-1)) C d_N_apart_81 rfl rfl ?_
        refine g_iret C hr hk d_N_apart_82 ⟨_, rfl, ?_⟩
        have hq : r5 = -1 ∧ S5 24 = S 24 ∧ ∃ R : Int → Bool, shutR (S 1 0).toNat (S 0 0).toNat (S 2) (S 3) (fx (S 6) (S 24)) (fy (S 1 0).toNat (S 6) u v (S 24)) (ua (S 6)) (zn u v (cap y)) R ∧ R (2 * u + 1) = true ∧ R (2 * v) = false := by
          rcases hp5.2 with q | q
          · exact q
          · exact absurd q.1 (by omega)
        obtain ⟨-, -, R, h1, h2, h3⟩ := hq
        exact Or.inr ⟨hok, eqx_tr hI.1 (eqx_mono hp5.1 (by simp)), Or.inl ⟨rfl, i, by omega, by omega, eq_cuG hI.1 (FJ_cuG (eq_GIs hI.1 hG) (by omega) hI.2.1 h1 h2 h3)⟩⟩

set_option maxRecDepth 100000 in
set_option maxHeartbeats 4000000 in
theorem m_N_apart {l : Launch} {D : va_G} {a : Nat → Nat} {ki kz kl kq : ClassId} {S : Nat → Int → Int} {u v n y : Int} (hG : GIs S) (hu : r32 u) (hv : r32 v) (hn : r32 n) (hy : r32 y) : MX l D a ki kz kl kq y_N_apart b_N_apart 8 (some .int) rm_N_apart [.ref (a 0), .int (iI u), .int (iI v), .int (iI n), .int (iI y)] S (pI fun r S' => (¬ (twoS S u v ∧ (1 ≤ n ∧ n ≤ 5) ∧ (0 ≤ y ∧ y ≤ 1)) ∧ r = -2 ∧ S' = S) ∨ ((twoS S u v ∧ (1 ≤ n ∧ n ≤ 5) ∧ (0 ≤ y ∧ y ≤ 1)) ∧ eqx [21, 22, 23, 24, 25, 26, 27, 28, 29] S S' ∧ ((r = -1 ∧ ∃ kp : Int, 0 ≤ kp ∧ kp < n ∧ cuG S u v y kp) ∨ (cuL S u v y n ∧ ∀ cf : List Int → List (List Int) → Bool, (∀ P Q, cf P Q = false ↔ ∀ R, R ∈ Q → ap (S 3) y R P) → se (wp (S 4)) cf (spS S u v) n.toNat 0 [] (-1) = r)))) := by
  refine MM.go b_N_apart 8 (some .int) "NextPaths" [(0, .ref (a 0)), (1, .int (iI u)), (2, .int (iI v)), (3, .int (iI n)), (4, .int (iI y))] (by decide) rfl rfl (Nat.le_of_ble_eq_true rfl) ?_
  intro p e s m args below meth c C hr hk
  refine g_aload_n C d_N_apart_0 rfl rfl ?_
  refine g_get C 0 0 i_N wX_0 rfl (by decide) k_N_12 rfl rfl d_N_apart_1 rfl ?_
  refine g_iload_n C d_N_apart_4 rfl rfl ?_
  refine g_iload_n C d_N_apart_5 rfl rfl ?_
  refine g_runI (wX_fix a ki kz kl kq) rfl (rn_VN C (m_G_areTwoNodes hu hv hG.1) 1 2 wX_1 rfl rfl kc_G_areTwoNodes k_N_68 ki_G_areTwoNodes kx_G_areTwoNodes kn_G hy_G_areTwoNodes ⟨rfl, rfl⟩ ⟨by decide, by decide⟩ ⟨Nat.le_refl _, Nat.le_refl _⟩ rfl rfl (Nat.le_of_ble_eq_true rfl) d_N_apart_6) (fun r1 S1 hp1 => ?_)
  obtain ⟨hS1, hp1⟩ := hp1
  refine GG.at hS1 ?_
  refine g_if_eq (tgt := 31) C d_N_apart_9 (by decide) rfl (by omega) (fun h9 => ?_) (fun h9 => ?_)
  · refine g_bipush (z := (-2)) C d_N_apart_31 rfl (by decide) ?_
    refine g_iret C hr hk d_N_apart_33 ⟨_, rfl, ?_⟩
    exact Or.inl ⟨by omega, rfl, rfl⟩
  · refine g_iload_n C d_N_apart_12 rfl rfl ?_
    refine g_iconst (z := 1) C d_N_apart_13 rfl rfl ?_
    refine g_iconst (z := 5) C d_N_apart_14 rfl rfl ?_
    refine g_runI (wX_fix a ki kz kl kq) rfl (rn_S C (m_N_liesIn hn (by decide) (by decide)) 3 kc_N_liesIn k_N_94 ks_N_liesIn kn_N hy_N_liesIn ⟨rfl, rfl⟩ ⟨by decide, by decide⟩ ⟨Nat.le_refl _, Nat.le_refl _⟩ rfl rfl (Nat.le_of_ble_eq_true rfl) d_N_apart_15) (fun r2 S2 hp2 => ?_)
    obtain ⟨hS2, hp2⟩ := hp2
    refine GG.at hS2 ?_
    refine g_if_eq (tgt := 31) C d_N_apart_18 (by decide) rfl (by omega) (fun h18 => ?_) (fun h18 => ?_)
    · refine g_bipush (z := (-2)) C d_N_apart_31 rfl (by decide) ?_
      refine g_iret C hr hk d_N_apart_33 ⟨_, rfl, ?_⟩
      exact Or.inl ⟨by omega, rfl, rfl⟩
    · refine g_iload C d_N_apart_21 rfl rfl ?_
      refine g_iconst (z := 0) C d_N_apart_23 rfl rfl ?_
      refine g_iconst (z := 1) C d_N_apart_24 rfl rfl ?_
      refine g_runI (wX_fix a ki kz kl kq) rfl (rn_S C (m_N_liesIn hy (by decide) (by decide)) 3 kc_N_liesIn k_N_94 ks_N_liesIn kn_N hy_N_liesIn ⟨rfl, rfl⟩ ⟨by decide, by decide⟩ ⟨Nat.le_refl _, Nat.le_refl _⟩ rfl rfl (Nat.le_of_ble_eq_true rfl) d_N_apart_25) (fun r3 S3 hp3 => ?_)
      obtain ⟨hS3, hp3⟩ := hp3
      refine GG.at hS3 ?_
      refine g_if_ne (tgt := 34) C d_N_apart_28 (by decide) rfl (by omega) (fun h28 => ?_) (fun h28 => ?_)
      · refine g_aload_n C d_N_apart_34 rfl rfl ?_
        refine g_get C 0 3 i_N wX_0 rfl (by decide) k_N_37 rfl rfl d_N_apart_35 rfl ?_
        refine g_iload_n C d_N_apart_38 rfl rfl ?_
        refine g_iload_n C d_N_apart_39 rfl rfl ?_
        refine g_iload C d_N_apart_40 rfl rfl ?_
        refine g_iconst (z := 1) C d_N_apart_42 rfl rfl ?_
        refine g_icmp_ne (tgt := 50) C d_N_apart_43 (by decide) rfl (by omega) (by omega) (fun h43 => ?_) (fun h43 => ?_)
        · refine g_iconst (z := 0) C d_N_apart_50 rfl rfl ?_
          refine g_runV (wX_fix a ki kz kl kq) rfl (rn_VN C (m_F_prepare hG (by omega) (by omega) (by decide)) 27 3 wX_27 rfl rfl kc_F_prepare k_N_113 ki_F_prepare kx_F_prepare kn_F hy_F_prepare ⟨rfl, rfl⟩ ⟨by decide, by decide⟩ ⟨Nat.le_refl _, Nat.le_refl _⟩ rfl rfl (Nat.le_of_ble_eq_true rfl) d_N_apart_51) (fun S4 hp4 => ?_)
          have hJ : FJ S4 u v (cap y) 0 0 := by
            first
              | (rw [show cap y = 1 from if_pos (by omega)]; exact hp4.2)
              | (rw [show cap y = 20 from if_neg (by omega)]; exact hp4.2)
          refine g_iconst (z := 0) C d_N_apart_54 rfl rfl ?_
          refine g_nm (fun t0 e_t0 => ?_)
          refine g_istore (lv' := [(5, .int (iI t0)), (0, .ref (a 0)), (1, .int (iI u)), (2, .int (iI v)), (3, .int (iI n)), (4, .int (iI y))]) C d_N_apart_55 (by decide) rfl rfl ?_
          refine g_iconst (z := 0) C d_N_apart_57 rfl rfl ?_
          refine g_nm (fun i0 e_i0 => ?_)
          refine g_istore (lv' := [(6, .int (iI i0)), (5, .int (iI t0)), (0, .ref (a 0)), (1, .int (iI u)), (2, .int (iI v)), (3, .int (iI n)), (4, .int (iI y))]) C d_N_apart_58 (by decide) rfl rfl ?_
          subst e_i0
          subst e_t0
          exact lo_N_apart hG (by omega) C hr hk _ 0 _ 0 (by omega) (Nat.le_add_left _ _) ⟨eqx_mono hp4.1 (by simp), hJ, by omega, by omega⟩
        · refine g_iconst (z := 1) C d_N_apart_46 rfl rfl ?_
          refine g_goto (tgt := 51) C d_N_apart_47 (by decide) ?_
          refine g_runV (wX_fix a ki kz kl kq) rfl (rn_VN C (m_F_prepare hG (by omega) (by omega) (by decide)) 27 3 wX_27 rfl rfl kc_F_prepare k_N_113 ki_F_prepare kx_F_prepare kn_F hy_F_prepare ⟨rfl, rfl⟩ ⟨by decide, by decide⟩ ⟨Nat.le_refl _, Nat.le_refl _⟩ rfl rfl (Nat.le_of_ble_eq_true rfl) d_N_apart_51) (fun S4 hp4 => ?_)
          have hJ : FJ S4 u v (cap y) 0 0 := by
            first
              | (rw [show cap y = 1 from if_pos (by omega)]; exact hp4.2)
              | (rw [show cap y = 20 from if_neg (by omega)]; exact hp4.2)
          refine g_iconst (z := 0) C d_N_apart_54 rfl rfl ?_
          refine g_nm (fun t0 e_t0 => ?_)
          refine g_istore (lv' := [(5, .int (iI t0)), (0, .ref (a 0)), (1, .int (iI u)), (2, .int (iI v)), (3, .int (iI n)), (4, .int (iI y))]) C d_N_apart_55 (by decide) rfl rfl ?_
          refine g_iconst (z := 0) C d_N_apart_57 rfl rfl ?_
          refine g_nm (fun i0 e_i0 => ?_)
          refine g_istore (lv' := [(6, .int (iI i0)), (5, .int (iI t0)), (0, .ref (a 0)), (1, .int (iI u)), (2, .int (iI v)), (3, .int (iI n)), (4, .int (iI y))]) C d_N_apart_58 (by decide) rfl rfl ?_
          subst e_i0
          subst e_t0
          exact lo_N_apart hG (by omega) C hr hk _ 0 _ 0 (by omega) (Nat.le_add_left _ _) ⟨eqx_mono hp4.1 (by simp), hJ, by omega, by omega⟩
      · refine g_bipush (z := (-2)) C d_N_apart_31 rfl (by decide) ?_
        refine g_iret C hr hk d_N_apart_33 ⟨_, rfl, ?_⟩
        exact Or.inl ⟨by omega, rfl, rfl⟩

set_option maxRecDepth 100000 in
set_option maxHeartbeats 4000000 in
theorem lo_N_most {l : Launch} {D : va_G} {a : Nat → Nat} {ki kz kl kq : ClassId} {p : Program} {e : Env} {s : State} {m : MethodId} {args : Array Value} {below : List Frame} {meth : Method} {c : Code} {S0 : Nat → Int → Int} {u v y : Int} (hG : GIs S0) (hok : (twoS S0 u v ∧ (0 ≤ y ∧ y ≤ 1))) (C : CX p s m args c b_N_most 5 "NextPaths" TT D cls (tyz ki kz kl kq)) (hr : meth.sig.returnType = (some .int)) (hk : meth.locks = false) : ∀ (j i : Nat) (S : Nat → Int → Int) (t : Int), i ≤ 20 → 20 ≤ i + j → (eqx [21, 22, 23, 24, 25, 26, 27, 28, 29] S0 S ∧ FJ S u v (cap y) i t) → GG p l e rm_N_most s m args below meth c D cls (adr (wX a ki kz kl kq S0)) 5 0 0 (MQ below (QcW D cls (wX a ki kz kl kq) S0 (pI fun r S' => (¬ (twoS S0 u v ∧ (0 ≤ y ∧ y ≤ 1)) ∧ r = -2 ∧ S' = S0) ∨ ((twoS S0 u v ∧ (0 ≤ y ∧ y ≤ 1)) ∧ eqx [21, 22, 23, 24, 25, 26, 27, 28, 29] S0 S' ∧ (0 ≤ r ∧ r ≤ 20) ∧ cuL S0 u v y r ∧ (r = 20 ∨ cuG S0 u v y r)))) args s 0 0 (adr (wX a ki kz kl kq S0))) (wX a ki kz kl kq) S [(4, .int (iI (i : Int))), (0, .ref (a 0)), (1, .int (iI u)), (2, .int (iI v)), (3, .int (iI y))] 46 [] := by
  intro j
  induction j with
  | zero =>
    intro i S t hi hk0 hI
    refine g_iload C d_N_most_46 rfl rfl ?_
    refine g_bipush (z := 20) C d_N_most_48 rfl (by decide) ?_
    refine g_icmp_ge (tgt := 70) C d_N_most_50 (by decide) rfl (by omega) (by omega) (fun h50 => ?_) (fun h50 => ?_)
    · refine g_iload C d_N_most_70 rfl rfl ?_
      refine g_iret C hr hk d_N_most_72 ⟨_, rfl, ?_⟩
      first
        | (have hq : r5 = -1 ∧ S5 24 = S 24 ∧ ∃ R : Int → Bool, shutR (S 1 0).toNat (S 0 0).toNat (S 2) (S 3) (fx (S 6) (S 24)) (fy (S 1 0).toNat (S 6) u v (S 24)) (ua (S 6)) (zn u v (cap y)) R ∧ R (2 * u + 1) = true ∧ R (2 * v) = false := by
             rcases hp5.2 with q | q
             · exact q
             · exact absurd q.1 (by omega)
           obtain ⟨-, -, R, h1, h2, h3⟩ := hq
           exact Or.inr ⟨hok, eqx_tr hI.1 (eqx_mono hp5.1 (by simp)), by omega, eq_cuL hI.1 (FJ_cuL hI.2), Or.inr (eq_cuG hI.1 (FJ_cuG (eq_GIs hI.1 hG) (by omega) hI.2 h1 h2 h3))⟩)
        | exact Or.inr ⟨hok, hI.1, by omega, eq_cuL hI.1 (FJ_cuL hI.2), Or.inl (by omega)⟩
    · exact absurd h50 (by omega)
  | succ j ih =>
    intro i S t hi hk0 hI
    refine g_iload C d_N_most_46 rfl rfl ?_
    refine g_bipush (z := 20) C d_N_most_48 rfl (by decide) ?_
    refine g_icmp_ge (tgt := 70) C d_N_most_50 (by decide) rfl (by omega) (by omega) (fun h50 => ?_) (fun h50 => ?_)
    · refine g_iload C d_N_most_70 rfl rfl ?_
      refine g_iret C hr hk d_N_most_72 ⟨_, rfl, ?_⟩
      first
        | (have hq : r5 = -1 ∧ S5 24 = S 24 ∧ ∃ R : Int → Bool, shutR (S 1 0).toNat (S 0 0).toNat (S 2) (S 3) (fx (S 6) (S 24)) (fy (S 1 0).toNat (S 6) u v (S 24)) (ua (S 6)) (zn u v (cap y)) R ∧ R (2 * u + 1) = true ∧ R (2 * v) = false := by
             rcases hp5.2 with q | q
             · exact q
             · exact absurd q.1 (by omega)
           obtain ⟨-, -, R, h1, h2, h3⟩ := hq
           exact Or.inr ⟨hok, eqx_tr hI.1 (eqx_mono hp5.1 (by simp)), by omega, eq_cuL hI.1 (FJ_cuL hI.2), Or.inr (eq_cuG hI.1 (FJ_cuG (eq_GIs hI.1 hG) (by omega) hI.2 h1 h2 h3))⟩)
        | exact Or.inr ⟨hok, hI.1, by omega, eq_cuL hI.1 (FJ_cuL hI.2), Or.inl (by omega)⟩
    · refine g_aload_n C d_N_most_53 rfl rfl ?_
      refine g_get C 0 3 i_N wX_0 rfl (by decide) k_N_37 rfl rfl d_N_most_54 rfl ?_
      refine g_runI (wX_fix a ki kz kl kq) rfl (rn_VN C (m_F_addPath (eq_GIs hI.1 hG) (by rw [hI.1 0 (by decide)]; omega) (by rw [hI.1 0 (by decide)]; omega) (by omega) (by omega) hI.2) 27 0 wX_27 rfl rfl kc_F_addPath k_N_117 ki_F_addPath kx_F_addPath kn_F hy_F_addPath ⟨rfl, rfl⟩ ⟨by decide, by decide⟩ ⟨Nat.le_refl _, Nat.le_refl _⟩ rfl rfl (Nat.le_of_ble_eq_true rfl) d_N_most_57) (fun r5 S5 hp5 => ?_)
      have hr5 : r32 r5 := by rcases hp5.2 with q | q <;> omega
      refine g_iconst (z := (-1)) C d_N_most_60 rfl rfl ?_
      refine g_icmp_eq (tgt := 70) C d_N_most_61 (by decide) rfl (by omega) (by decide) (fun h61 => ?_) (fun h61 => ?_)
      · refine g_iload C d_N_most_70 rfl rfl ?_
        refine g_iret C hr hk d_N_most_72 ⟨_, rfl, ?_⟩
        first
          | (have hq : r5 = -1 ∧ S5 24 = S 24 ∧ ∃ R : Int → Bool, shutR (S 1 0).toNat (S 0 0).toNat (S 2) (S 3) (fx (S 6) (S 24)) (fy (S 1 0).toNat (S 6) u v (S 24)) (ua (S 6)) (zn u v (cap y)) R ∧ R (2 * u + 1) = true ∧ R (2 * v) = false := by
               rcases hp5.2 with q | q
               · exact q
               · exact absurd q.1 (by omega)
             obtain ⟨-, -, R, h1, h2, h3⟩ := hq
             exact Or.inr ⟨hok, eqx_tr hI.1 (eqx_mono hp5.1 (by simp)), by omega, eq_cuL hI.1 (FJ_cuL hI.2), Or.inr (eq_cuG hI.1 (FJ_cuG (eq_GIs hI.1 hG) (by omega) hI.2 h1 h2 h3))⟩)
          | exact Or.inr ⟨hok, hI.1, by omega, eq_cuL hI.1 (FJ_cuL hI.2), Or.inl (by omega)⟩
      · obtain ⟨i2, e_i2⟩ : ∃ z : Int, z = (i : Int) + 1 := ⟨_, rfl⟩
        refine g_iinc (q := 0) (z := i2) (lv' := [(4, .int (iI i2)), (0, .ref (a 0)), (1, .int (iI u)), (2, .int (iI v)), (3, .int (iI y))]) C d_N_most_64 rfl e_i2.symm (by decide) rfl rfl ?_
        refine g_goto (tgt := 46) C d_N_most_67 (by decide) ?_
        have hq : (0 ≤ r5 ∧ r5 < 1000000) ∧ FJ S5 u v (cap y) ((i : Int) + 1) (t + r5) := by
          rcases hp5.2 with q | q
          · exact absurd q.1 (by omega)
          · exact q
        refine GG.lvs (lv' := [(4, .int (iI ((i + 1 : Nat) : Int))), (0, .ref (a 0)), (1, .int (iI u)), (2, .int (iI v)), (3, .int (iI y))]) (by rw [show i2 = ((i + 1 : Nat) : Int) by omega]; simp [lk]) ?_
        exact ih (i + 1) _ (t + r5) (by omega) (by omega) ⟨eqx_tr hI.1 (eqx_mono hp5.1 (by simp)), (by rw [show ((i + 1 : Nat) : Int) = (i : Int) + 1 by omega]; exact hq.2)⟩

set_option maxRecDepth 100000 in
set_option maxHeartbeats 4000000 in
theorem m_N_most {l : Launch} {D : va_G} {a : Nat → Nat} {ki kz kl kq : ClassId} {S : Nat → Int → Int} {u v y : Int} (hG : GIs S) (hu : r32 u) (hv : r32 v) (hy : r32 y) : MX l D a ki kz kl kq y_N_most b_N_most 5 (some .int) rm_N_most [.ref (a 0), .int (iI u), .int (iI v), .int (iI y)] S (pI fun r S' => (¬ (twoS S u v ∧ (0 ≤ y ∧ y ≤ 1)) ∧ r = -2 ∧ S' = S) ∨ ((twoS S u v ∧ (0 ≤ y ∧ y ≤ 1)) ∧ eqx [21, 22, 23, 24, 25, 26, 27, 28, 29] S S' ∧ (0 ≤ r ∧ r ≤ 20) ∧ cuL S u v y r ∧ (r = 20 ∨ cuG S u v y r))) := by
  refine MM.go b_N_most 5 (some .int) "NextPaths" [(0, .ref (a 0)), (1, .int (iI u)), (2, .int (iI v)), (3, .int (iI y))] (by decide) rfl rfl (Nat.le_of_ble_eq_true rfl) ?_
  intro p e s m args below meth c C hr hk
  refine g_aload_n C d_N_most_0 rfl rfl ?_
  refine g_get C 0 0 i_N wX_0 rfl (by decide) k_N_12 rfl rfl d_N_most_1 rfl ?_
  refine g_iload_n C d_N_most_4 rfl rfl ?_
  refine g_iload_n C d_N_most_5 rfl rfl ?_
  refine g_runI (wX_fix a ki kz kl kq) rfl (rn_VN C (m_G_areTwoNodes hu hv hG.1) 1 2 wX_1 rfl rfl kc_G_areTwoNodes k_N_68 ki_G_areTwoNodes kx_G_areTwoNodes kn_G hy_G_areTwoNodes ⟨rfl, rfl⟩ ⟨by decide, by decide⟩ ⟨Nat.le_refl _, Nat.le_refl _⟩ rfl rfl (Nat.le_of_ble_eq_true rfl) d_N_most_6) (fun r1 S1 hp1 => ?_)
  obtain ⟨hS1, hp1⟩ := hp1
  refine GG.at hS1 ?_
  refine g_if_eq (tgt := 21) C d_N_most_9 (by decide) rfl (by omega) (fun h9 => ?_) (fun h9 => ?_)
  · refine g_bipush (z := (-2)) C d_N_most_21 rfl (by decide) ?_
    refine g_iret C hr hk d_N_most_23 ⟨_, rfl, ?_⟩
    exact Or.inl ⟨by omega, rfl, rfl⟩
  · refine g_iload_n C d_N_most_12 rfl rfl ?_
    refine g_iconst (z := 0) C d_N_most_13 rfl rfl ?_
    refine g_iconst (z := 1) C d_N_most_14 rfl rfl ?_
    refine g_runI (wX_fix a ki kz kl kq) rfl (rn_S C (m_N_liesIn hy (by decide) (by decide)) 3 kc_N_liesIn k_N_94 ks_N_liesIn kn_N hy_N_liesIn ⟨rfl, rfl⟩ ⟨by decide, by decide⟩ ⟨Nat.le_refl _, Nat.le_refl _⟩ rfl rfl (Nat.le_of_ble_eq_true rfl) d_N_most_15) (fun r3 S3 hp3 => ?_)
    obtain ⟨hS3, hp3⟩ := hp3
    refine GG.at hS3 ?_
    refine g_if_ne (tgt := 24) C d_N_most_18 (by decide) rfl (by omega) (fun h18 => ?_) (fun h18 => ?_)
    · refine g_aload_n C d_N_most_24 rfl rfl ?_
      refine g_get C 0 3 i_N wX_0 rfl (by decide) k_N_37 rfl rfl d_N_most_25 rfl ?_
      refine g_iload_n C d_N_most_28 rfl rfl ?_
      refine g_iload_n C d_N_most_29 rfl rfl ?_
      refine g_iload_n C d_N_most_30 rfl rfl ?_
      refine g_iconst (z := 1) C d_N_most_31 rfl rfl ?_
      refine g_icmp_ne (tgt := 39) C d_N_most_32 (by decide) rfl (by omega) (by omega) (fun h32 => ?_) (fun h32 => ?_)
      · refine g_iconst (z := 0) C d_N_most_39 rfl rfl ?_
        refine g_runV (wX_fix a ki kz kl kq) rfl (rn_VN C (m_F_prepare hG (by omega) (by omega) (by decide)) 27 3 wX_27 rfl rfl kc_F_prepare k_N_113 ki_F_prepare kx_F_prepare kn_F hy_F_prepare ⟨rfl, rfl⟩ ⟨by decide, by decide⟩ ⟨Nat.le_refl _, Nat.le_refl _⟩ rfl rfl (Nat.le_of_ble_eq_true rfl) d_N_most_40) (fun S4 hp4 => ?_)
        have hJ : FJ S4 u v (cap y) 0 0 := by
          first
            | (rw [show cap y = 1 from if_pos (by omega)]; exact hp4.2)
            | (rw [show cap y = 20 from if_neg (by omega)]; exact hp4.2)
        refine g_iconst (z := 0) C d_N_most_43 rfl rfl ?_
        refine g_nm (fun i0 e_i0 => ?_)
        refine g_istore (lv' := [(4, .int (iI i0)), (0, .ref (a 0)), (1, .int (iI u)), (2, .int (iI v)), (3, .int (iI y))]) C d_N_most_44 (by decide) rfl rfl ?_
        subst e_i0
        exact lo_N_most hG (by omega) C hr hk _ 0 _ 0 (by omega) (Nat.le_add_left _ _) ⟨eqx_mono hp4.1 (by simp), hJ⟩
      · refine g_iconst (z := 1) C d_N_most_35 rfl rfl ?_
        refine g_goto (tgt := 40) C d_N_most_36 (by decide) ?_
        refine g_runV (wX_fix a ki kz kl kq) rfl (rn_VN C (m_F_prepare hG (by omega) (by omega) (by decide)) 27 3 wX_27 rfl rfl kc_F_prepare k_N_113 ki_F_prepare kx_F_prepare kn_F hy_F_prepare ⟨rfl, rfl⟩ ⟨by decide, by decide⟩ ⟨Nat.le_refl _, Nat.le_refl _⟩ rfl rfl (Nat.le_of_ble_eq_true rfl) d_N_most_40) (fun S4 hp4 => ?_)
        have hJ : FJ S4 u v (cap y) 0 0 := by
          first
            | (rw [show cap y = 1 from if_pos (by omega)]; exact hp4.2)
            | (rw [show cap y = 20 from if_neg (by omega)]; exact hp4.2)
        refine g_iconst (z := 0) C d_N_most_43 rfl rfl ?_
        refine g_nm (fun i0 e_i0 => ?_)
        refine g_istore (lv' := [(4, .int (iI i0)), (0, .ref (a 0)), (1, .int (iI u)), (2, .int (iI v)), (3, .int (iI y))]) C d_N_most_44 (by decide) rfl rfl ?_
        subst e_i0
        exact lo_N_most hG (by omega) C hr hk _ 0 _ 0 (by omega) (Nat.le_add_left _ _) ⟨eqx_mono hp4.1 (by simp), hJ⟩
    · refine g_bipush (z := (-2)) C d_N_most_21 rfl (by decide) ?_
      refine g_iret C hr hk d_N_most_23 ⟨_, rfl, ?_⟩
      exact Or.inl ⟨by omega, rfl, rfl⟩

