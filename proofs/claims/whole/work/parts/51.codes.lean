/-! the class: codes of paths, small methods -/
theorem lshl_c {z : Int} (k : Nat) (P : Int) (hz : 0 ≤ z) (hk : k < 64) (hP : (2 : Int) ^ k = P) : lI z <<< ((iI (k : Int)).toInt64 &&& 63) = lI (z * P) := by
  subst hP
  have := lshl_ok (z := z) (k := k) hz (by omega) (by omega)
  rw [Int.toNat_natCast] at this
  exact this
theorem lshr_c {z : Int} (k : Nat) (P : Int) (hz : 0 ≤ z) (hz2 : z < 4611686018427387904) (hk : k < 64) (hP : (2 : Int) ^ k = P) : lI z >>> ((iI (k : Int)).toInt64 &&& 63) = lI (z / P) := by
  subst hP
  have := lshr_ok (z := z) (k := k) hz hz2 (by omega) (by omega)
  rw [Int.toNat_natCast] at this
  exact this
theorem p38 : (2 : Int) ^ 38 = 274877906944 := by decide +kernel
theorem p35 : (2 : Int) ^ 35 = 34359738368 := by decide +kernel

set_option maxRecDepth 100000 in
set_option maxHeartbeats 4000000 in
theorem m_C_shiftOf {l : Launch} {D : va_G} {a : Nat → Nat} {ki kz kl kq : ClassId} {S : Nat → Int → Int} {i : Int}  : MX l D a ki kz kl kq y_C_shiftOf b_C_shiftOf 1 (some .int) rm_C_shiftOf [.int (iI i)] S (pI fun r S' => S' = S ∧ r = 5 * (6 - i)) := by
  refine MM.go b_C_shiftOf 1 (some .int) "NextPaths$PathCode" [(0, .int (iI i))] (by decide) rfl rfl (Nat.le_of_ble_eq_true rfl) ?_
  intro p e s m args below meth c C hr hk
  refine g_iconst (z := 5) C d_C_shiftOf_0 rfl rfl ?_
  refine g_bipush (z := 6) C d_C_shiftOf_1 rfl (by decide) ?_
  refine g_iload_n C d_C_shiftOf_3 rfl rfl ?_
  refine g_isub C d_C_shiftOf_4 rfl rfl ?_
  refine g_imul C d_C_shiftOf_5 rfl rfl ?_
  refine g_iret C hr hk d_C_shiftOf_6 ⟨_, rfl, ?_⟩
  exact ⟨rfl, rfl⟩

set_option maxRecDepth 100000 in
set_option maxHeartbeats 4000000 in
theorem m_C_arcAt {l : Launch} {D : va_G} {a : Nat → Nat} {ki kz kl kq : ClassId} {S : Nat → Int → Int} {k i : Int} (hk0 : 0 ≤ k ∧ k < 32) (hi : 0 ≤ i ∧ i ≤ 6) : MX l D a ki kz kl kq y_C_arcAt b_C_arcAt 2 (some .long) rm_C_arcAt [.int (iI k), .int (iI i)] S (pL fun r S' => S' = S ∧ r = k * 2 ^ (5 * (6 - i)).toNat) := by
  refine MM.go b_C_arcAt 2 (some .long) "NextPaths$PathCode" [(0, .int (iI k)), (1, .int (iI i))] (by decide) rfl rfl (Nat.le_of_ble_eq_true rfl) ?_
  intro p e s m args below meth c C hr hk
  refine g_iload_n C d_C_arcAt_0 rfl rfl ?_
  refine g_i2l (z := k) C d_C_arcAt_1 (i2l_ok (by omega)) rfl ?_
  refine g_iload_n C d_C_arcAt_2 rfl rfl ?_
  refine g_runI (wX_fix a ki kz kl kq) rfl (rn_S C (m_C_shiftOf) 1 kc_C_shiftOf k_C_11 ks_C_shiftOf kn_C hy_C_shiftOf ⟨rfl, rfl⟩ ⟨by decide, by decide⟩ ⟨Nat.le_refl _, Nat.le_refl _⟩ rfl rfl (Nat.le_of_ble_eq_true rfl) d_C_arcAt_3) (fun r S' hp => ?_)
  obtain ⟨rfl, rfl⟩ := hp
  refine g_lshl (z := (k * 2 ^ (5 * (6 - i)).toNat)) C d_C_arcAt_6 (lshl_ok (by omega) (by omega) (by omega)) rfl ?_
  refine g_lret C hr hk d_C_arcAt_7 ⟨_, rfl, ?_⟩
  exact ⟨rfl, rfl⟩

set_option maxRecDepth 100000 in
set_option maxHeartbeats 4000000 in
theorem m_C_head {l : Launch} {D : va_G} {a : Nat → Nat} {ki kz kl kq : ClassId} {S : Nat → Int → Int} {u n : Int} (hu : 0 ≤ u ∧ u ≤ 7000) (hn : 0 ≤ n ∧ n ≤ 7) : MX l D a ki kz kl kq y_C_head b_C_head 2 (some .long) rm_C_head [.int (iI u), .int (iI n)] S (pL fun r S' => S' = S ∧ r = u * 274877906944 + n * 34359738368) := by
  refine MM.go b_C_head 2 (some .long) "NextPaths$PathCode" [(0, .int (iI u)), (1, .int (iI n))] (by decide) rfl rfl (Nat.le_of_ble_eq_true rfl) ?_
  intro p e s m args below meth c C hr hk
  refine g_iload_n C d_C_head_0 rfl rfl ?_
  refine g_i2l (z := u) C d_C_head_1 (i2l_ok (by omega)) rfl ?_
  refine g_bipush (z := 38) C d_C_head_2 rfl (by decide) ?_
  refine g_lshl (z := (u * 274877906944)) C d_C_head_4 (lshl_c 38 _ (by omega) (by decide) p38) rfl ?_
  refine g_iload_n C d_C_head_5 rfl rfl ?_
  refine g_i2l (z := n) C d_C_head_6 (i2l_ok (by omega)) rfl ?_
  refine g_bipush (z := 35) C d_C_head_7 rfl (by decide) ?_
  refine g_lshl (z := (n * 34359738368)) C d_C_head_9 (lshl_c 35 _ (by omega) (by decide) p35) rfl ?_
  refine g_lor (z := (u * 274877906944 + n * 34359738368)) C d_C_head_10 (lor_ok 38 (by decide) (by omega) (by omega) (by omega) (by omega)) rfl ?_
  refine g_lret C hr hk d_C_head_11 ⟨_, rfl, ?_⟩
  exact ⟨rfl, rfl⟩

set_option maxRecDepth 100000 in
set_option maxHeartbeats 4000000 in
theorem m_C_weightIn {l : Launch} {D : va_G} {a : Nat → Nat} {ki kz kl kq : ClassId} {S : Nat → Int → Int} {x : Int} (hc : 0 ≤ x ∧ x < 2251799813685248) : MX l D a ki kz kl kq y_C_weightIn b_C_weightIn 2 (some .int) rm_C_weightIn [.long (lI x)] S (pI fun r S' => S' = S ∧ r = x / 274877906944) := by
  refine MM.go b_C_weightIn 2 (some .int) "NextPaths$PathCode" [(0, .long (lI x))] (by decide) rfl rfl (Nat.le_of_ble_eq_true rfl) ?_
  intro p e s m args below meth c C hr hk
  refine g_lload_n C d_C_weightIn_0 rfl rfl ?_
  refine g_bipush (z := 38) C d_C_weightIn_1 rfl (by decide) ?_
  refine g_lshr (z := (x / 274877906944)) C d_C_weightIn_3 (lshr_c 38 _ (by omega) (by omega) (by decide) p38) rfl ?_
  refine g_l2i C d_C_weightIn_4 rfl ?_
  refine g_iret C hr hk d_C_weightIn_5 ⟨_, rfl, ?_⟩
  exact ⟨rfl, rfl⟩

set_option maxRecDepth 100000 in
set_option maxHeartbeats 4000000 in
theorem m_C_lengthIn {l : Launch} {D : va_G} {a : Nat → Nat} {ki kz kl kq : ClassId} {S : Nat → Int → Int} {x : Int} (hc : 0 ≤ x ∧ x < 2251799813685248) : MX l D a ki kz kl kq y_C_lengthIn b_C_lengthIn 2 (some .int) rm_C_lengthIn [.long (lI x)] S (pI fun r S' => S' = S ∧ r = x / 34359738368 % 8) := by
  refine MM.go b_C_lengthIn 2 (some .int) "NextPaths$PathCode" [(0, .long (lI x))] (by decide) rfl rfl (Nat.le_of_ble_eq_true rfl) ?_
  intro p e s m args below meth c C hr hk
  refine g_lload_n C d_C_lengthIn_0 rfl rfl ?_
  refine g_bipush (z := 35) C d_C_lengthIn_1 rfl (by decide) ?_
  refine g_lshr (z := (x / 34359738368)) C d_C_lengthIn_3 (lshr_c 35 _ (by omega) (by omega) (by decide) p35) rfl ?_
  refine g_l2i C d_C_lengthIn_4 rfl ?_
  refine g_bipush (z := 7) C d_C_lengthIn_5 rfl (by decide) ?_
  refine g_iand (z := (x / 34359738368 % 8)) C d_C_lengthIn_7 (iand_ok 3 (by omega) (by decide)) rfl ?_
  refine g_iret C hr hk d_C_lengthIn_8 ⟨_, rfl, ?_⟩
  exact ⟨rfl, rfl⟩

set_option maxRecDepth 100000 in
set_option maxHeartbeats 4000000 in
theorem m_C_arcIn {l : Launch} {D : va_G} {a : Nat → Nat} {ki kz kl kq : ClassId} {S : Nat → Int → Int} {x i : Int} (hc : 0 ≤ x ∧ x < 2251799813685248) (hi : 0 ≤ i ∧ i ≤ 6) : MX l D a ki kz kl kq y_C_arcIn b_C_arcIn 3 (some .int) rm_C_arcIn [.long (lI x), .int (iI i)] S (pI fun r S' => S' = S ∧ r = ar_ x i) := by
  refine MM.go b_C_arcIn 3 (some .int) "NextPaths$PathCode" [(0, .long (lI x)), (2, .int (iI i))] (by decide) rfl rfl (Nat.le_of_ble_eq_true rfl) ?_
  intro p e s m args below meth c C hr hk
  refine g_lload_n C d_C_arcIn_0 rfl rfl ?_
  refine g_iload_n C d_C_arcIn_1 rfl rfl ?_
  refine g_runI (wX_fix a ki kz kl kq) rfl (rn_S C (m_C_shiftOf) 1 kc_C_shiftOf k_C_11 ks_C_shiftOf kn_C hy_C_shiftOf ⟨rfl, rfl⟩ ⟨by decide, by decide⟩ ⟨Nat.le_refl _, Nat.le_refl _⟩ rfl rfl (Nat.le_of_ble_eq_true rfl) d_C_arcIn_2) (fun r S' hp => ?_)
  obtain ⟨rfl, rfl⟩ := hp
  refine g_lshr (z := (x / 2 ^ (5 * (6 - i)).toNat)) C d_C_arcIn_5 (lshr_ok (by omega) (by omega) (by omega) (by omega)) rfl ?_
  refine g_l2i C d_C_arcIn_6 rfl ?_
  refine g_bipush (z := 31) C d_C_arcIn_7 rfl (by decide) ?_
  refine g_iand (z := (x / 2 ^ (5 * (6 - i)).toNat % 32)) C d_C_arcIn_9 (iand_ok 5 (Int.ediv_nonneg (by omega) (Int.le_of_lt (Int.pow_pos (by omega)))) (by decide)) rfl ?_
  refine g_iret C hr hk d_C_arcIn_10 ⟨_, rfl, ?_⟩
  exact ⟨rfl, rfl⟩

set_option maxRecDepth 100000 in
set_option maxHeartbeats 4000000 in
theorem m_H_empty {l : Launch} {D : va_G} {a : Nat → Nat} {ki kz kl kq : ClassId} {S : Nat → Int → Int}   : MX l D a ki kz kl kq y_H_empty b_H_empty 1 none rm_H_empty [.ref (a 17)] S (pV fun S' => S' = us S 17 0 0) := by
  refine MM.go b_H_empty 1 none "NextPaths$PathHeap" [(0, .ref (a 17))] (by decide) rfl rfl (Nat.le_of_ble_eq_true rfl) ?_
  intro p e s m args below meth c C hr hk
  refine g_aload_n C d_H_empty_0 rfl rfl ?_
  refine g_iconst (z := 0) C d_H_empty_1 rfl rfl ?_
  refine g_put (ty := .int) C 17 1 ty_H i_H ty_H_ok n_H wX_17 rfl (by decide) k_H_15 rfl rfl (by decide +kernel) rfl rfl (Nat.le_of_ble_eq_true rfl) wX_p17_1 d_H_empty_2 rfl ?_
  refine g_vret C hr hk d_H_empty_5 ⟨rfl, ?_⟩
  rfl

set_option maxRecDepth 100000 in
set_option maxHeartbeats 4000000 in
theorem m_T_empty {l : Launch} {D : va_G} {a : Nat → Nat} {ki kz kl kq : ClassId} {S : Nat → Int → Int}   : MX l D a ki kz kl kq y_T_empty b_T_empty 1 none rm_T_empty [.ref (a 22)] S (pV fun S' => S' = us S 31 0 0) := by
  refine MM.go b_T_empty 1 none "NextPaths$ToldPath" [(0, .ref (a 22))] (by decide) rfl rfl (Nat.le_of_ble_eq_true rfl) ?_
  intro p e s m args below meth c C hr hk
  refine g_aload_n C d_T_empty_0 rfl rfl ?_
  refine g_iconst (z := 0) C d_T_empty_1 rfl rfl ?_
  refine g_put (ty := .int) C 22 1 ty_T i_T ty_T_ok n_T wX_22 rfl (by decide) k_T_15 rfl rfl (by decide +kernel) rfl rfl (Nat.le_of_ble_eq_true rfl) wX_p22_1 d_T_empty_2 rfl ?_
  refine g_vret C hr hk d_T_empty_5 ⟨rfl, ?_⟩
  rfl

set_option maxRecDepth 100000 in
set_option maxHeartbeats 4000000 in
theorem m_B_empty {l : Launch} {D : va_G} {a : Nat → Nat} {ki kz kl kq : ClassId} {S : Nat → Int → Int}   : MX l D a ki kz kl kq y_B_empty b_B_empty 1 none rm_B_empty [.ref (a 24)] S (pV fun S' => S' = us S 36 0 0) := by
  refine MM.go b_B_empty 1 none "NextPaths$BestPairs" [(0, .ref (a 24))] (by decide) rfl rfl (Nat.le_of_ble_eq_true rfl) ?_
  intro p e s m args below meth c C hr hk
  refine g_aload_n C d_B_empty_0 rfl rfl ?_
  refine g_iconst (z := 0) C d_B_empty_1 rfl rfl ?_
  refine g_put (ty := .int) C 24 2 ty_B i_B ty_B_ok n_B wX_24 rfl (by decide) k_B_18 rfl rfl (by decide +kernel) rfl rfl (Nat.le_of_ble_eq_true rfl) wX_p24_2 d_B_empty_2 rfl ?_
  refine g_vret C hr hk d_B_empty_5 ⟨rfl, ?_⟩
  rfl

set_option maxRecDepth 100000 in
set_option maxHeartbeats 4000000 in
theorem m_G_empty {l : Launch} {D : va_G} {a : Nat → Nat} {ki kz kl kq : ClassId} {S : Nat → Int → Int}   : MX l D a ki kz kl kq y_G_empty b_G_empty 1 none rm_G_empty [.ref (a 1)] S (pV fun S' => S' = fl (us (us S 0 0 0) 1 0 0) 7 8 0) := by
  refine MM.go b_G_empty 1 none "NextPaths$Graph" [(0, .ref (a 1))] (by decide) rfl rfl (Nat.le_of_ble_eq_true rfl) ?_
  intro p e s m args below meth c C hr hk
  refine g_aload_n C d_G_empty_0 rfl rfl ?_
  refine g_iconst (z := 0) C d_G_empty_1 rfl rfl ?_
  refine g_put (ty := .int) C 1 0 ty_G i_G ty_G_ok n_G wX_1 rfl (by decide) k_G_36 rfl rfl (by decide +kernel) rfl rfl (Nat.le_of_ble_eq_true rfl) wX_p1_0 d_G_empty_2 rfl ?_
  refine g_aload_n C d_G_empty_5 rfl rfl ?_
  refine g_iconst (z := 0) C d_G_empty_6 rfl rfl ?_
  refine g_put (ty := .int) C 1 1 ty_G i_G ty_G_ok n_G wX_1 rfl (by decide) k_G_40 rfl rfl (by decide +kernel) rfl rfl (Nat.le_of_ble_eq_true rfl) wX_p1_1 d_G_empty_7 rfl ?_
  refine g_aload_n C d_G_empty_10 rfl rfl ?_
  refine g_get C 1 8 i_G wX_1 rfl (by decide) k_G_33 rfl rfl d_G_empty_11 rfl ?_
  refine g_iconst (z := 0) C d_G_empty_14 rfl rfl ?_
  refine g_run0 (w := wX a ki kz kl kq) (q1 := a 16) (g := fun f => .inl (ki, 8, .inl (ia f))) (y := us (us S 0 0 0) 1 0 0 7) (nx := fun f i => if i = 7 then f else us (us S 0 0 0) 1 0 0 i) 16 rfl (fun _ _ => rfl) (fun _ _ h => h.1) rfl (rn_S C (m_J_fill (q := a 16) (N := 8) (by decide)) 2 kc_J_fill k_G_43 ks_J_fill kn_J hy_J_fill ⟨rfl, rfl⟩ ⟨by decide, by decide⟩ ⟨Nat.le_refl _, Nat.le_refl _⟩ rfl rfl (Nat.le_of_ble_eq_true rfl) d_G_empty_15) (fun y hy => ?_)
  refine g_vret C hr hk d_G_empty_18 ⟨rfl, ?_⟩
  obtain ⟨-, rfl⟩ := hy
  funext i
  unfold fl
  by_cases e7 : i = 7
  · subst e7; rfl
  · rw [if_neg e7, if_neg e7]

set_option maxRecDepth 100000 in
set_option maxHeartbeats 4000000 in
theorem m_G_addArc {l : Launch} {D : va_G} {a : Nat → Nat} {ki kz kl kq : ClassId} {S : Nat → Int → Int} {u v w1 w2 : Int} (hn : 0 ≤ S 1 0 ∧ S 1 0 ≤ 20) (hu : 0 ≤ u ∧ u < 8) (hs : 0 ≤ S 7 u ∧ S 7 u ≤ S 1 0) : MX l D a ki kz kl kq y_G_addArc b_G_addArc 6 (some .int) rm_G_addArc [.ref (a 1), .int (iI u), .int (iI v), .int (iI w1), .int (iI w2)] S (pI fun r S' => (S 1 0 = 20 ∧ r = -3 ∧ S' = S) ∨ (S 1 0 < 20 ∧ r = S 1 0 ∧ S' = us (us (us (us (us (us (us (us S 2 (S 1 0) u) 3 (S 1 0) v) 4 (S 1 0) w1) 5 (S 1 0) w2) 6 (S 1 0) 0) (8 + u.toNat) (S 7 u) (S 1 0)) 7 u (S 7 u + 1)) 1 0 (S 1 0 + 1))) := by
  refine MM.go b_G_addArc 6 (some .int) "NextPaths$Graph" [(0, .ref (a 1)), (1, .int (iI u)), (2, .int (iI v)), (3, .int (iI w1)), (4, .int (iI w2))] (by decide) rfl rfl (Nat.le_of_ble_eq_true rfl) ?_
  intro p e s m args below meth c C hr hk
  refine g_aload_n C d_G_addArc_0 rfl rfl ?_
  refine g_get C 1 1 i_G wX_1 rfl (by decide) k_G_40 rfl rfl d_G_addArc_1 rfl ?_
  refine g_bipush (z := 20) C d_G_addArc_4 rfl (by decide) ?_
  refine g_icmp_lt (tgt := 12) C d_G_addArc_6 (by decide) rfl (by omega) (by omega) (fun h6 => ?_) (fun h6 => ?_)
  · refine g_aload_n C d_G_addArc_12 rfl rfl ?_
    refine g_get C 1 1 i_G wX_1 rfl (by decide) k_G_40 rfl rfl d_G_addArc_13 rfl ?_
    refine g_nm (fun n e_n => ?_)
    refine g_istore (lv' := [(5, .int (iI n)), (0, .ref (a 1)), (1, .int (iI u)), (2, .int (iI v)), (3, .int (iI w1)), (4, .int (iI w2))]) C d_G_addArc_16 (by decide) rfl rfl ?_
    refine g_aload_n C d_G_addArc_18 rfl rfl ?_
    refine g_get C 1 2 i_G wX_1 rfl (by decide) k_G_9 rfl rfl d_G_addArc_19 rfl ?_
    refine g_iload C d_G_addArc_22 rfl rfl ?_
    refine g_iload_n C d_G_addArc_24 rfl rfl ?_
    refine g_iast C 2 0 wX_2 rfl (by omega) (by omega) (by decide) wX_s2 d_G_addArc_25 rfl ?_
    refine g_aload_n C d_G_addArc_26 rfl rfl ?_
    refine g_get C 1 3 i_G wX_1 rfl (by decide) k_G_15 rfl rfl d_G_addArc_27 rfl ?_
    refine g_iload C d_G_addArc_30 rfl rfl ?_
    refine g_iload_n C d_G_addArc_32 rfl rfl ?_
    refine g_iast C 3 0 wX_3 rfl (by omega) (by omega) (by decide) wX_s3 d_G_addArc_33 rfl ?_
    refine g_aload_n C d_G_addArc_34 rfl rfl ?_
    refine g_get C 1 4 i_G wX_1 rfl (by decide) k_G_18 rfl rfl d_G_addArc_35 rfl ?_
    refine g_iload C d_G_addArc_38 rfl rfl ?_
    refine g_iload_n C d_G_addArc_40 rfl rfl ?_
    refine g_iast C 4 0 wX_4 rfl (by omega) (by omega) (by decide) wX_s4 d_G_addArc_41 rfl ?_
    refine g_aload_n C d_G_addArc_42 rfl rfl ?_
    refine g_get C 1 5 i_G wX_1 rfl (by decide) k_G_21 rfl rfl d_G_addArc_43 rfl ?_
    refine g_iload C d_G_addArc_46 rfl rfl ?_
    refine g_iload C d_G_addArc_48 rfl rfl ?_
    refine g_iast C 5 0 wX_5 rfl (by omega) (by omega) (by decide) wX_s5 d_G_addArc_50 rfl ?_
    refine g_aload_n C d_G_addArc_51 rfl rfl ?_
    refine g_get C 1 6 i_G wX_1 rfl (by decide) k_G_24 rfl rfl d_G_addArc_52 rfl ?_
    refine g_iload C d_G_addArc_55 rfl rfl ?_
    refine g_iconst (z := 0) C d_G_addArc_57 rfl rfl ?_
    refine g_zast C 6 1 wX_6 rfl (by omega) (by omega) (by decide) (by omega) wX_s6 d_G_addArc_58 rfl ?_
    refine g_aload_n C d_G_addArc_59 rfl rfl ?_
    refine g_get C 1 7 i_G wX_1 rfl (by decide) k_G_30 rfl rfl d_G_addArc_60 rfl ?_
    refine g_iload_n C d_G_addArc_63 rfl rfl ?_
    refine g_aald (z := u) C 7 3 wX_7 rfl (by omega) (by omega) (by decide) (if_pos (by omega)) d_G_addArc_64 rfl ?_
    refine g_aload_n C d_G_addArc_65 rfl rfl ?_
    refine g_get C 1 8 i_G wX_1 rfl (by decide) k_G_33 rfl rfl d_G_addArc_66 rfl ?_
    refine g_iload_n C d_G_addArc_69 rfl rfl ?_
    refine g_iald C 16 0 wX_16 rfl (by omega) (by omega) (by decide) d_G_addArc_70 rfl ?_
    refine g_v (z' := S 7 u) rfl ?_
    refine g_iload C d_G_addArc_71 rfl rfl ?_
    refine g_iast C (8 + u.toNat) 0 (wX_row (by omega)) rfl (by omega) (by omega) (by decide) (wX_srow (by omega)) d_G_addArc_73 rfl ?_
    refine g_aload_n C d_G_addArc_74 rfl rfl ?_
    refine g_get C 1 8 i_G wX_1 rfl (by decide) k_G_33 rfl rfl d_G_addArc_75 rfl ?_
    refine g_iload_n C d_G_addArc_78 rfl rfl ?_
    refine g_dup2 C d_G_addArc_79 rfl rfl rfl ?_
    refine g_iald C 16 0 wX_16 rfl (by omega) (by omega) (by decide) d_G_addArc_80 rfl ?_
    refine g_v (z' := S 7 u) (by rw [us_n (by omega)]; rfl) ?_
    refine g_iconst (z := 1) C d_G_addArc_81 rfl rfl ?_
    refine g_iadd C d_G_addArc_82 rfl rfl ?_
    refine g_iast C 16 0 wX_16 rfl (by omega) (by omega) (by decide) wX_s16 d_G_addArc_83 rfl ?_
    refine g_aload_n C d_G_addArc_84 rfl rfl ?_
    refine g_dup C d_G_addArc_85 rfl rfl ?_
    refine g_get C 1 1 i_G wX_1 rfl (by decide) k_G_40 rfl rfl d_G_addArc_86 rfl ?_
    refine g_v (z' := S 1 0) (by rw [us_n (by decide), us_n (by omega)]; rfl) ?_
    refine g_iconst (z := 1) C d_G_addArc_89 rfl rfl ?_
    refine g_iadd C d_G_addArc_90 rfl rfl ?_
    refine g_put (ty := .int) C 1 1 ty_G i_G ty_G_ok n_G wX_1 rfl (by decide) k_G_40 rfl rfl (by decide +kernel) rfl rfl (Nat.le_of_ble_eq_true rfl) wX_p1_1 d_G_addArc_91 rfl ?_
    refine g_iload C d_G_addArc_94 rfl rfl ?_
    refine g_iret C hr hk d_G_addArc_96 ⟨_, rfl, ?_⟩
    subst e_n
    exact Or.inr ⟨by omega, rfl, rfl⟩
  · refine g_bipush (z := (-3)) C d_G_addArc_9 rfl (by decide) ?_
    refine g_iret C hr hk d_G_addArc_11 ⟨_, rfl, ?_⟩
    exact Or.inl ⟨by omega, rfl, rfl⟩

