/-! the class: what is asked of the graph -/
set_option maxRecDepth 100000 in
set_option maxHeartbeats 4000000 in
theorem lo_G_shut {l : Launch} {D : va_G} {a : Nat → Nat} {ki kz kl kq : ClassId} {p : Program} {e : Env} {s : State} {m : MethodId} {args : Array Value} {below : List Frame} {meth : Method} {c : Code} {S : Nat → Int → Int} (hn : 0 ≤ S 1 0 ∧ S 1 0 ≤ 20) (h6 : ∀ k, S 6 k = 0 ∨ S 6 k = 1) (C : CX p s m args c b_G_shutArcs 3 "NextPaths$Graph" TT D cls (tyz ki kz kl kq)) (hr : meth.sig.returnType = (some .int)) (hk : meth.locks = false) : ∀ (k i : Nat), i ≤ (S 1 0).toNat → (S 1 0).toNat ≤ i + k → GG p l e rm_G_shutArcs s m args below meth c D cls (adr (wX a ki kz kl kq S)) 3 0 0 (MQ below (QcW D cls (wX a ki kz kl kq) S (pI fun r S' => S' = S ∧ r = sm (S 6) (S 1 0).toNat)) args s 0 0 (adr (wX a ki kz kl kq S))) (wX a ki kz kl kq) S [(2, .int (iI (i : Int))), (1, .int (iI (sm (S 6) i))), (0, .ref (a 1))] 4 [] := by
  intro k
  induction k with
  | zero =>
    intro i hi hk0
    have h01 := h6 i
    have hb0 := sm_nn (f := S 6) i (fun j _ _ => by have := h6 j; omega)
    have hb1 : sm (S 6) i ≤ i := by
      have q := sm_le (f := S 6) (g := fun _ => 1) i (fun j _ _ => by have := h6 j; show S 6 j ≤ 1; omega)
      have q2 : ∀ n : Nat, sm (fun _ => 1) n = n := fun n => by
        induction n with
        | zero => rfl
        | succ n ih => simp only [sm]; omega
      rw [q2] at q; exact q
    refine g_iload_n C d_G_shutArcs_4 rfl rfl ?_
    refine g_aload_n C d_G_shutArcs_5 rfl rfl ?_
    refine g_get C 1 1 i_G wX_1 rfl (by decide) k_G_40 rfl rfl d_G_shutArcs_6 rfl ?_
    refine g_icmp_ge (tgt := 30) C d_G_shutArcs_9 (by decide) rfl (by omega) (by omega) (fun h9 => ?_) (fun h9 => ?_)
    · refine g_iload_n C d_G_shutArcs_30 rfl rfl ?_
      refine g_iret C hr hk d_G_shutArcs_31 ⟨_, rfl, ?_⟩
      have hi2 : i = (S 1 0).toNat := by omega
      subst hi2
      exact ⟨rfl, rfl⟩
    · exact absurd h9 (by omega)
  | succ k ih =>
    intro i hi hk0
    have h01 := h6 i
    have hb0 := sm_nn (f := S 6) i (fun j _ _ => by have := h6 j; omega)
    have hb1 : sm (S 6) i ≤ i := by
      have q := sm_le (f := S 6) (g := fun _ => 1) i (fun j _ _ => by have := h6 j; show S 6 j ≤ 1; omega)
      have q2 : ∀ n : Nat, sm (fun _ => 1) n = n := fun n => by
        induction n with
        | zero => rfl
        | succ n ih => simp only [sm]; omega
      rw [q2] at q; exact q
    refine g_iload_n C d_G_shutArcs_4 rfl rfl ?_
    refine g_aload_n C d_G_shutArcs_5 rfl rfl ?_
    refine g_get C 1 1 i_G wX_1 rfl (by decide) k_G_40 rfl rfl d_G_shutArcs_6 rfl ?_
    refine g_icmp_ge (tgt := 30) C d_G_shutArcs_9 (by decide) rfl (by omega) (by omega) (fun h9 => ?_) (fun h9 => ?_)
    · refine g_iload_n C d_G_shutArcs_30 rfl rfl ?_
      refine g_iret C hr hk d_G_shutArcs_31 ⟨_, rfl, ?_⟩
      have hi2 : i = (S 1 0).toNat := by omega
      subst hi2
      exact ⟨rfl, rfl⟩
    · refine g_aload_n C d_G_shutArcs_12 rfl rfl ?_
      refine g_get C 1 6 i_G wX_1 rfl (by decide) k_G_24 rfl rfl d_G_shutArcs_13 rfl ?_
      refine g_iload_n C d_G_shutArcs_16 rfl rfl ?_
      refine g_zald C 6 1 wX_6 rfl (by omega) (by omega) (by decide) d_G_shutArcs_17 rfl ?_
      refine g_if_eq (tgt := 24) C d_G_shutArcs_18 (by decide) rfl (by omega) (fun h18 => ?_) (fun h18 => ?_)
      · obtain ⟨i2, e_i2⟩ : ∃ z : Int, z = (i : Int) + 1 := ⟨_, rfl⟩
        refine g_iinc (q := 0) (z := i2) (lv' := [(2, .int (iI i2)), (1, .int (iI (sm (S 6) i))), (0, .ref (a 1))]) C d_G_shutArcs_24 rfl e_i2.symm (by decide) rfl rfl ?_
        refine g_goto (tgt := 4) C d_G_shutArcs_27 (by decide) ?_
        refine GG.lvs (lv' := [(2, .int (iI ((i + 1 : Nat) : Int))), (1, .int (iI (sm (S 6) (i + 1)))), (0, .ref (a 1))]) ?_ (ih (i + 1) (by omega) (by omega))
        have q1 : i2 = ((i + 1 : Nat) : Int) := by omega
        subst q1
        first
          | (have q2 : r2 = sm (S 6) (i + 1) := by simp only [sm]; omega
             subst q2; simp [lk])
          | (have q2 : sm (S 6) i = sm (S 6) (i + 1) := by simp only [sm]; omega
             rw [← q2]; simp [lk])
      · obtain ⟨r2, e_r2⟩ : ∃ z : Int, z = (sm (S 6) i) + 1 := ⟨_, rfl⟩
        refine g_iinc (q := 1) (z := r2) (lv' := [(1, .int (iI r2)), (2, .int (iI (i : Int))), (0, .ref (a 1))]) C d_G_shutArcs_21 rfl e_r2.symm (by decide) rfl rfl ?_
        obtain ⟨i2, e_i2⟩ : ∃ z : Int, z = (i : Int) + 1 := ⟨_, rfl⟩
        refine g_iinc (q := 1) (z := i2) (lv' := [(2, .int (iI i2)), (1, .int (iI r2)), (0, .ref (a 1))]) C d_G_shutArcs_24 rfl e_i2.symm (by decide) rfl rfl ?_
        refine g_goto (tgt := 4) C d_G_shutArcs_27 (by decide) ?_
        refine GG.lvs (lv' := [(2, .int (iI ((i + 1 : Nat) : Int))), (1, .int (iI (sm (S 6) (i + 1)))), (0, .ref (a 1))]) ?_ (ih (i + 1) (by omega) (by omega))
        have q1 : i2 = ((i + 1 : Nat) : Int) := by omega
        subst q1
        first
          | (have q2 : r2 = sm (S 6) (i + 1) := by simp only [sm]; omega
             subst q2; simp [lk])
          | (have q2 : sm (S 6) i = sm (S 6) (i + 1) := by simp only [sm]; omega
             rw [← q2]; simp [lk])

set_option maxRecDepth 100000 in
set_option maxHeartbeats 4000000 in
theorem m_G_shutArcs {l : Launch} {D : va_G} {a : Nat → Nat} {ki kz kl kq : ClassId} {S : Nat → Int → Int}  (hn : 0 ≤ S 1 0 ∧ S 1 0 ≤ 20) (h6 : ∀ k, S 6 k = 0 ∨ S 6 k = 1) : MX l D a ki kz kl kq y_G_shutArcs b_G_shutArcs 3 (some .int) rm_G_shutArcs [.ref (a 1)] S (pI fun r S' => S' = S ∧ r = sm (S 6) (S 1 0).toNat) := by
  refine MM.go b_G_shutArcs 3 (some .int) "NextPaths$Graph" [(0, .ref (a 1))] (by decide) rfl rfl (Nat.le_of_ble_eq_true rfl) ?_
  intro p e s m args below meth c C hr hk
  refine g_iconst (z := 0) C d_G_shutArcs_0 rfl rfl ?_
  refine g_nm (fun r0 e_r0 => ?_)
  refine g_istore_n (lv' := [(1, .int (iI r0)), (0, .ref (a 1))]) C d_G_shutArcs_1 (by decide) rfl rfl ?_
  refine g_iconst (z := 0) C d_G_shutArcs_2 rfl rfl ?_
  refine g_nm (fun i0 e_i0 => ?_)
  refine g_istore_n (lv' := [(2, .int (iI i0)), (1, .int (iI r0)), (0, .ref (a 1))]) C d_G_shutArcs_3 (by decide) rfl rfl ?_
  subst e_r0
  subst e_i0
  exact lo_G_shut hn h6 C hr hk _ 0 (by omega) (Nat.le_add_left _ _)

set_option maxRecDepth 100000 in
set_option maxHeartbeats 4000000 in
theorem m_N_clear {l : Launch} {D : va_G} {a : Nat → Nat} {ki kz kl kq : ClassId} {S : Nat → Int → Int}   : MX l D a ki kz kl kq y_N_clear b_N_clear 2 (some .int) rm_N_clear [.ref (a 0)] S (pI fun r S' => r = S 1 0 ∧ S' = us (us (fl (us (us S 0 0 0) 1 0 0) 7 8 0) 31 0 0) 36 0 0) := by
  refine MM.go b_N_clear 2 (some .int) "NextPaths" [(0, .ref (a 0))] (by decide) rfl rfl (Nat.le_of_ble_eq_true rfl) ?_
  intro p e s m args below meth c C hr hk
  refine g_aload_n C d_N_clear_0 rfl rfl ?_
  refine g_get C 0 0 i_N wX_0 rfl (by decide) k_N_12 rfl rfl d_N_clear_1 rfl ?_
  refine g_getN C 1 1 i_G wX_1 rfl (by decide) k_N_55 rfl rfl d_N_clear_4 rfl ?_
  refine g_nm (fun n e_n => ?_)
  refine g_istore_n (lv' := [(1, .int (iI n)), (0, .ref (a 0))]) C d_N_clear_7 (by decide) rfl rfl ?_
  refine g_aload_n C d_N_clear_8 rfl rfl ?_
  refine g_get C 0 0 i_N wX_0 rfl (by decide) k_N_12 rfl rfl d_N_clear_9 rfl ?_
  refine g_runV (wX_fix a ki kz kl kq) rfl (rn_VN C (m_G_empty) 1 0 wX_1 rfl rfl kc_G_empty k_N_59 ki_G_empty kx_G_empty kn_G hy_G_empty ⟨rfl, rfl⟩ ⟨by decide, by decide⟩ ⟨Nat.le_refl _, Nat.le_refl _⟩ rfl rfl (Nat.le_of_ble_eq_true rfl) d_N_clear_12) (fun S1 hp => ?_)
  subst hp
  refine g_aload_n C d_N_clear_15 rfl rfl ?_
  refine g_get C 0 4 i_N wX_0 rfl (by decide) k_N_44 rfl rfl d_N_clear_16 rfl ?_
  refine g_runV (wX_fix a ki kz kl kq) rfl (rn_VN C (m_T_empty) 22 0 wX_22 rfl rfl kc_T_empty k_N_62 ki_T_empty kx_T_empty kn_T hy_T_empty ⟨rfl, rfl⟩ ⟨by decide, by decide⟩ ⟨Nat.le_refl _, Nat.le_refl _⟩ rfl rfl (Nat.le_of_ble_eq_true rfl) d_N_clear_19) (fun S1 hp => ?_)
  subst hp
  refine g_aload_n C d_N_clear_22 rfl rfl ?_
  refine g_get C 0 5 i_N wX_0 rfl (by decide) k_N_51 rfl rfl d_N_clear_23 rfl ?_
  refine g_runV (wX_fix a ki kz kl kq) rfl (rn_VN C (m_B_empty) 24 0 wX_24 rfl rfl kc_B_empty k_N_63 ki_B_empty kx_B_empty kn_B hy_B_empty ⟨rfl, rfl⟩ ⟨by decide, by decide⟩ ⟨Nat.le_refl _, Nat.le_refl _⟩ rfl rfl (Nat.le_of_ble_eq_true rfl) d_N_clear_26) (fun S1 hp => ?_)
  subst hp
  refine g_iload_n C d_N_clear_29 rfl rfl ?_
  refine g_iret C hr hk d_N_clear_30 ⟨_, rfl, ?_⟩
  exact ⟨e_n, rfl⟩

set_option maxRecDepth 100000 in
set_option maxHeartbeats 4000000 in
theorem m_N_node {l : Launch} {D : va_G} {a : Nat → Nat} {ki kz kl kq : ClassId} {S : Nat → Int → Int}  (hn : 0 ≤ S 0 0 ∧ S 0 0 ≤ 8) : MX l D a ki kz kl kq y_N_node b_N_node 1 (some .int) rm_N_node [.ref (a 0)] S (pI fun r S' => (S 0 0 = 8 ∧ r = -3 ∧ S' = S) ∨ (S 0 0 < 8 ∧ r = S 0 0 ∧ S' = us S 0 0 (S 0 0 + 1))) := by
  refine MM.go b_N_node 1 (some .int) "NextPaths" [(0, .ref (a 0))] (by decide) rfl rfl (Nat.le_of_ble_eq_true rfl) ?_
  intro p e s m args below meth c C hr hk
  refine g_aload_n C d_N_node_0 rfl rfl ?_
  refine g_get C 0 0 i_N wX_0 rfl (by decide) k_N_12 rfl rfl d_N_node_1 rfl ?_
  refine g_runI (wX_fix a ki kz kl kq) rfl (rn_VN C (m_G_addNode hn) 1 0 wX_1 rfl rfl kc_G_addNode k_N_64 ki_G_addNode kx_G_addNode kn_G hy_G_addNode ⟨rfl, rfl⟩ ⟨by decide, by decide⟩ ⟨Nat.le_refl _, Nat.le_refl _⟩ rfl rfl (Nat.le_of_ble_eq_true rfl) d_N_node_4) (fun r S1 hp => ?_)
  refine g_iret C hr hk d_N_node_7 ⟨_, rfl, ?_⟩
  exact hp

abbrev twoS (S : Nat → Int → Int) (u v : Int) : Prop := 0 ≤ u ∧ u < S 0 0 ∧ 0 ≤ v ∧ v < S 0 0 ∧ u ≠ v
abbrev wtS (z : Int) : Prop := 0 ≤ z ∧ z ≤ 1000
/-- an arc more -/
def addA (S : Nat → Int → Int) (u v w1 w2 : Int) : Nat → Int → Int := us (us (us (us (us (us (us (us S 2 (S 1 0) u) 3 (S 1 0) v) 4 (S 1 0) w1) 5 (S 1 0) w2) 6 (S 1 0) 0) (8 + u.toNat) (S 7 u) (S 1 0)) 7 u (S 7 u + 1)) 1 0 (S 1 0 + 1)

set_option maxRecDepth 100000 in
set_option maxHeartbeats 4000000 in
theorem m_N_arc {l : Launch} {D : va_G} {a : Nat → Nat} {ki kz kl kq : ClassId} {S : Nat → Int → Int} {u v w1 w2 : Int} (hG : GIs S) (hu : r32 u) (hv : r32 v) (h1 : r32 w1) (h2 : r32 w2) : MX l D a ki kz kl kq y_N_arc b_N_arc 5 (some .int) rm_N_arc [.ref (a 0), .int (iI u), .int (iI v), .int (iI w1), .int (iI w2)] S (pI fun r S' => (¬ (twoS S u v ∧ wtS w1 ∧ wtS w2) ∧ r = -2 ∧ S' = S) ∨ ((twoS S u v ∧ wtS w1 ∧ wtS w2) ∧ ((S 1 0 = 20 ∧ r = -3 ∧ S' = S) ∨ (S 1 0 < 20 ∧ r = S 1 0 ∧ S' = addA S u v w1 w2)))) := by
  refine MM.go b_N_arc 5 (some .int) "NextPaths" [(0, .ref (a 0)), (1, .int (iI u)), (2, .int (iI v)), (3, .int (iI w1)), (4, .int (iI w2))] (by decide) rfl rfl (Nat.le_of_ble_eq_true rfl) ?_
  intro p e s m args below meth c C hr hk
  refine g_aload_n C d_N_arc_0 rfl rfl ?_
  refine g_get C 0 0 i_N wX_0 rfl (by decide) k_N_12 rfl rfl d_N_arc_1 rfl ?_
  refine g_iload_n C d_N_arc_4 rfl rfl ?_
  refine g_iload_n C d_N_arc_5 rfl rfl ?_
  refine g_runI (wX_fix a ki kz kl kq) rfl (rn_VN C (m_G_areTwoNodes hu hv hG.1) 1 2 wX_1 rfl rfl kc_G_areTwoNodes k_N_68 ki_G_areTwoNodes kx_G_areTwoNodes kn_G hy_G_areTwoNodes ⟨rfl, rfl⟩ ⟨by decide, by decide⟩ ⟨Nat.le_refl _, Nat.le_refl _⟩ rfl rfl (Nat.le_of_ble_eq_true rfl) d_N_arc_6) (fun r1 S1 hp1 => ?_)
  obtain ⟨hS1, hp1⟩ := hp1
  refine GG.at hS1 ?_
  refine g_if_eq (tgt := 27) C d_N_arc_9 (by decide) rfl (by omega) (fun h9 => ?_) (fun h9 => ?_)
  · refine g_bipush (z := (-2)) C d_N_arc_27 rfl (by decide) ?_
    refine g_iret C hr hk d_N_arc_29 ⟨_, rfl, ?_⟩
    exact Or.inl ⟨by omega, rfl, rfl⟩
  · refine g_iload_n C d_N_arc_12 rfl rfl ?_
    refine g_runI (wX_fix a ki kz kl kq) rfl (rn_S C (m_N_isWeight h1) 1 kc_N_isWeight k_N_72 ks_N_isWeight kn_N hy_N_isWeight ⟨rfl, rfl⟩ ⟨by decide, by decide⟩ ⟨Nat.le_refl _, Nat.le_refl _⟩ rfl rfl (Nat.le_of_ble_eq_true rfl) d_N_arc_13) (fun r2 S2 hp2 => ?_)
    obtain ⟨hS2, hp2⟩ := hp2
    refine GG.at hS2 ?_
    refine g_if_eq (tgt := 27) C d_N_arc_16 (by decide) rfl (by omega) (fun h16 => ?_) (fun h16 => ?_)
    · refine g_bipush (z := (-2)) C d_N_arc_27 rfl (by decide) ?_
      refine g_iret C hr hk d_N_arc_29 ⟨_, rfl, ?_⟩
      exact Or.inl ⟨by omega, rfl, rfl⟩
    · refine g_iload C d_N_arc_19 rfl rfl ?_
      refine g_runI (wX_fix a ki kz kl kq) rfl (rn_S C (m_N_isWeight h2) 1 kc_N_isWeight k_N_72 ks_N_isWeight kn_N hy_N_isWeight ⟨rfl, rfl⟩ ⟨by decide, by decide⟩ ⟨Nat.le_refl _, Nat.le_refl _⟩ rfl rfl (Nat.le_of_ble_eq_true rfl) d_N_arc_21) (fun r3 S3 hp3 => ?_)
      obtain ⟨hS3, hp3⟩ := hp3
      refine GG.at hS3 ?_
      refine g_if_ne (tgt := 30) C d_N_arc_24 (by decide) rfl (by omega) (fun h24 => ?_) (fun h24 => ?_)
      · have hn8 := hG.1
        have hl := hG.2.2.2 u (by omega) (by omega)
        have hll := lo_len (n := (S 1 0).toNat) (F := S 2) (v := u)
        have hn20 := hG.2.1
        have hl7 : 0 ≤ S 7 u ∧ S 7 u ≤ S 1 0 := by omega
        refine g_aload_n C d_N_arc_30 rfl rfl ?_
        refine g_get C 0 0 i_N wX_0 rfl (by decide) k_N_12 rfl rfl d_N_arc_31 rfl ?_
        refine g_iload_n C d_N_arc_34 rfl rfl ?_
        refine g_iload_n C d_N_arc_35 rfl rfl ?_
        refine g_iload_n C d_N_arc_36 rfl rfl ?_
        refine g_iload C d_N_arc_37 rfl rfl ?_
        refine g_runI (wX_fix a ki kz kl kq) rfl (rn_VN C (m_G_addArc hG.2.1 (by omega) hl7) 1 4 wX_1 rfl rfl kc_G_addArc k_N_76 ki_G_addArc kx_G_addArc kn_G hy_G_addArc ⟨rfl, rfl⟩ ⟨by decide, by decide⟩ ⟨Nat.le_refl _, Nat.le_refl _⟩ rfl rfl (Nat.le_of_ble_eq_true rfl) d_N_arc_39) (fun r4 S4 hp4 => ?_)
        refine g_iret C hr hk d_N_arc_42 ⟨_, rfl, ?_⟩
        exact Or.inr ⟨by omega, hp4⟩
      · refine g_bipush (z := (-2)) C d_N_arc_27 rfl (by decide) ?_
        refine g_iret C hr hk d_N_arc_29 ⟨_, rfl, ?_⟩
        exact Or.inl ⟨by omega, rfl, rfl⟩

set_option maxRecDepth 100000 in
set_option maxHeartbeats 4000000 in
theorem m_N_change {l : Launch} {D : va_G} {a : Nat → Nat} {ki kz kl kq : ClassId} {S : Nat → Int → Int} {k w1 w2 : Int} (hG : GIs S) (hk0 : r32 k) (h1 : r32 w1) (h2 : r32 w2) : MX l D a ki kz kl kq y_N_change b_N_change 5 (some .int) rm_N_change [.ref (a 0), .int (iI k), .int (iI w1), .int (iI w2)] S (pI fun r S' => (¬ ((0 ≤ k ∧ k < S 1 0) ∧ wtS w1 ∧ wtS w2) ∧ r = -2 ∧ S' = S) ∨ (((0 ≤ k ∧ k < S 1 0) ∧ wtS w1 ∧ wtS w2) ∧ r = S 4 k ∧ S' = us (us S 4 k w1) 5 k w2)) := by
  refine MM.go b_N_change 5 (some .int) "NextPaths" [(0, .ref (a 0)), (1, .int (iI k)), (2, .int (iI w1)), (3, .int (iI w2))] (by decide) rfl rfl (Nat.le_of_ble_eq_true rfl) ?_
  intro p e s m args below meth c C hr hk
  refine g_aload_n C d_N_change_0 rfl rfl ?_
  refine g_get C 0 0 i_N wX_0 rfl (by decide) k_N_12 rfl rfl d_N_change_1 rfl ?_
  refine g_iload_n C d_N_change_4 rfl rfl ?_
  refine g_runI (wX_fix a ki kz kl kq) rfl (rn_VN C (m_G_isArc hk0 hG.2.1) 1 1 wX_1 rfl rfl kc_G_isArc k_N_80 ki_G_isArc kx_G_isArc kn_G hy_G_isArc ⟨rfl, rfl⟩ ⟨by decide, by decide⟩ ⟨Nat.le_refl _, Nat.le_refl _⟩ rfl rfl (Nat.le_of_ble_eq_true rfl) d_N_change_5) (fun r1 S1 hp1 => ?_)
  obtain ⟨hS1, hp1⟩ := hp1
  refine GG.at hS1 ?_
  refine g_if_eq (tgt := 25) C d_N_change_8 (by decide) rfl (by omega) (fun h8 => ?_) (fun h8 => ?_)
  · refine g_bipush (z := (-2)) C d_N_change_25 rfl (by decide) ?_
    refine g_iret C hr hk d_N_change_27 ⟨_, rfl, ?_⟩
    exact Or.inl ⟨by omega, rfl, rfl⟩
  · refine g_iload_n C d_N_change_11 rfl rfl ?_
    refine g_runI (wX_fix a ki kz kl kq) rfl (rn_S C (m_N_isWeight h1) 1 kc_N_isWeight k_N_72 ks_N_isWeight kn_N hy_N_isWeight ⟨rfl, rfl⟩ ⟨by decide, by decide⟩ ⟨Nat.le_refl _, Nat.le_refl _⟩ rfl rfl (Nat.le_of_ble_eq_true rfl) d_N_change_12) (fun r2 S2 hp2 => ?_)
    obtain ⟨hS2, hp2⟩ := hp2
    refine GG.at hS2 ?_
    refine g_if_eq (tgt := 25) C d_N_change_15 (by decide) rfl (by omega) (fun h15 => ?_) (fun h15 => ?_)
    · refine g_bipush (z := (-2)) C d_N_change_25 rfl (by decide) ?_
      refine g_iret C hr hk d_N_change_27 ⟨_, rfl, ?_⟩
      exact Or.inl ⟨by omega, rfl, rfl⟩
    · refine g_iload_n C d_N_change_18 rfl rfl ?_
      refine g_runI (wX_fix a ki kz kl kq) rfl (rn_S C (m_N_isWeight h2) 1 kc_N_isWeight k_N_72 ks_N_isWeight kn_N hy_N_isWeight ⟨rfl, rfl⟩ ⟨by decide, by decide⟩ ⟨Nat.le_refl _, Nat.le_refl _⟩ rfl rfl (Nat.le_of_ble_eq_true rfl) d_N_change_19) (fun r3 S3 hp3 => ?_)
      obtain ⟨hS3, hp3⟩ := hp3
      refine GG.at hS3 ?_
      refine g_if_ne (tgt := 28) C d_N_change_22 (by decide) rfl (by omega) (fun h22 => ?_) (fun h22 => ?_)
      · have hn20 := hG.2.1
        refine g_aload_n C d_N_change_28 rfl rfl ?_
        refine g_get C 0 0 i_N wX_0 rfl (by decide) k_N_12 rfl rfl d_N_change_29 rfl ?_
        refine g_getN C 1 4 i_G wX_1 rfl (by decide) k_N_83 rfl rfl d_N_change_32 rfl ?_
        refine g_iload_n C d_N_change_35 rfl rfl ?_
        refine g_iald C 4 0 wX_4 rfl (by omega) (by omega) (by decide) d_N_change_36 rfl ?_
        refine g_nm (fun ol e_ol => ?_)
        refine g_istore (lv' := [(4, .int (iI ol)), (0, .ref (a 0)), (1, .int (iI k)), (2, .int (iI w1)), (3, .int (iI w2))]) C d_N_change_37 (by decide) rfl rfl ?_
        refine g_aload_n C d_N_change_39 rfl rfl ?_
        refine g_get C 0 0 i_N wX_0 rfl (by decide) k_N_12 rfl rfl d_N_change_40 rfl ?_
        refine g_getN C 1 4 i_G wX_1 rfl (by decide) k_N_83 rfl rfl d_N_change_43 rfl ?_
        refine g_iload_n C d_N_change_46 rfl rfl ?_
        refine g_iload_n C d_N_change_47 rfl rfl ?_
        refine g_iast C 4 0 wX_4 rfl (by omega) (by omega) (by decide) wX_s4 d_N_change_48 rfl ?_
        refine g_aload_n C d_N_change_49 rfl rfl ?_
        refine g_get C 0 0 i_N wX_0 rfl (by decide) k_N_12 rfl rfl d_N_change_50 rfl ?_
        refine g_getN C 1 5 i_G wX_1 rfl (by decide) k_N_87 rfl rfl d_N_change_53 rfl ?_
        refine g_iload_n C d_N_change_56 rfl rfl ?_
        refine g_iload_n C d_N_change_57 rfl rfl ?_
        refine g_iast C 5 0 wX_5 rfl (by omega) (by omega) (by decide) wX_s5 d_N_change_58 rfl ?_
        refine g_iload C d_N_change_59 rfl rfl ?_
        refine g_iret C hr hk d_N_change_61 ⟨_, rfl, ?_⟩
        exact Or.inr ⟨by omega, e_ol, rfl⟩
      · refine g_bipush (z := (-2)) C d_N_change_25 rfl (by decide) ?_
        refine g_iret C hr hk d_N_change_27 ⟨_, rfl, ?_⟩
        exact Or.inl ⟨by omega, rfl, rfl⟩

set_option maxRecDepth 100000 in
set_option maxHeartbeats 4000000 in
theorem m_N_shut {l : Launch} {D : va_G} {a : Nat → Nat} {ki kz kl kq : ClassId} {S : Nat → Int → Int} {k v : Int} (hG : GIs S) (hk0 : r32 k) (hv : v = 0 ∨ v = 1) : MX l D a ki kz kl kq y_N_shut b_N_shut 4 (some .int) rm_N_shut [.ref (a 0), .int (iI k), .int (iI v)] S (pI fun r S' => (¬ (0 ≤ k ∧ k < S 1 0) ∧ r = -2 ∧ S' = S) ∨ ((0 ≤ k ∧ k < S 1 0) ∧ r = S 6 k ∧ S' = us S 6 k v)) := by
  refine MM.go b_N_shut 4 (some .int) "NextPaths" [(0, .ref (a 0)), (1, .int (iI k)), (2, .int (iI v))] (by decide) rfl rfl (Nat.le_of_ble_eq_true rfl) ?_
  intro p e s m args below meth c C hr hk
  refine g_aload_n C d_N_shut_0 rfl rfl ?_
  refine g_get C 0 0 i_N wX_0 rfl (by decide) k_N_12 rfl rfl d_N_shut_1 rfl ?_
  refine g_iload_n C d_N_shut_4 rfl rfl ?_
  refine g_runI (wX_fix a ki kz kl kq) rfl (rn_VN C (m_G_isArc hk0 hG.2.1) 1 1 wX_1 rfl rfl kc_G_isArc k_N_80 ki_G_isArc kx_G_isArc kn_G hy_G_isArc ⟨rfl, rfl⟩ ⟨by decide, by decide⟩ ⟨Nat.le_refl _, Nat.le_refl _⟩ rfl rfl (Nat.le_of_ble_eq_true rfl) d_N_shut_5) (fun r1 S1 hp1 => ?_)
  obtain ⟨hS1, hp1⟩ := hp1
  refine GG.at hS1 ?_
  refine g_if_ne (tgt := 14) C d_N_shut_8 (by decide) rfl (by omega) (fun h8 => ?_) (fun h8 => ?_)
  · have hn20 := hG.2.1
    have h01 := (hG.2.2.1.2.2.1 k).2.2.2.2.2.2.2.2
    refine g_aload_n C d_N_shut_14 rfl rfl ?_
    refine g_get C 0 0 i_N wX_0 rfl (by decide) k_N_12 rfl rfl d_N_shut_15 rfl ?_
    refine g_getN C 1 6 i_G wX_1 rfl (by decide) k_N_90 rfl rfl d_N_shut_18 rfl ?_
    refine g_iload_n C d_N_shut_21 rfl rfl ?_
    refine g_zald C 6 1 wX_6 rfl (by omega) (by omega) (by decide) d_N_shut_22 rfl ?_
    refine g_nm (fun ol e_ol => ?_)
    refine g_istore_n (lv' := [(3, .int (iI ol)), (0, .ref (a 0)), (1, .int (iI k)), (2, .int (iI v))]) C d_N_shut_23 (by decide) rfl rfl ?_
    refine g_aload_n C d_N_shut_24 rfl rfl ?_
    refine g_get C 0 0 i_N wX_0 rfl (by decide) k_N_12 rfl rfl d_N_shut_25 rfl ?_
    refine g_getN C 1 6 i_G wX_1 rfl (by decide) k_N_90 rfl rfl d_N_shut_28 rfl ?_
    refine g_iload_n C d_N_shut_31 rfl rfl ?_
    refine g_iload_n C d_N_shut_32 rfl rfl ?_
    refine g_zast C 6 1 wX_6 rfl (by omega) (by omega) (by decide) (by omega) wX_s6 d_N_shut_33 rfl ?_
    refine g_iload_n C d_N_shut_34 rfl rfl ?_
    refine g_if_eq (tgt := 42) C d_N_shut_35 (by decide) rfl (by omega) (fun h35 => ?_) (fun h35 => ?_)
    · refine g_iconst (z := 0) C d_N_shut_42 rfl rfl ?_
      refine g_iret C hr hk d_N_shut_43 ⟨_, rfl, ?_⟩
      exact Or.inr ⟨by omega, by omega, rfl⟩
    · refine g_iconst (z := 1) C d_N_shut_38 rfl rfl ?_
      refine g_goto (tgt := 43) C d_N_shut_39 (by decide) ?_
      refine g_iret C hr hk d_N_shut_43 ⟨_, rfl, ?_⟩
      exact Or.inr ⟨by omega, by omega, rfl⟩
  · refine g_bipush (z := (-2)) C d_N_shut_11 rfl (by decide) ?_
    refine g_iret C hr hk d_N_shut_13 ⟨_, rfl, ?_⟩
    exact Or.inl ⟨by omega, rfl, rfl⟩

set_option maxRecDepth 100000 in
set_option maxHeartbeats 4000000 in
theorem m_N_count {l : Launch} {D : va_G} {a : Nat → Nat} {ki kz kl kq : ClassId} {S : Nat → Int → Int} {u v : Int} (hG : GIs S) (hz : BZ S) (hu : r32 u) (hv : r32 v) : MX l D a ki kz kl kq y_N_count b_N_count 3 (some .int) rm_N_count [.ref (a 0), .int (iI u), .int (iI v)] S (pI fun r S' => (¬ twoS S u v ∧ r = -2 ∧ S' = S) ∨ (twoS S u v ∧ r = (spS S u v).length ∧ eqx [16, 17, 18, 19, 20] S S' ∧ BZ S')) := by
  refine MM.go b_N_count 3 (some .int) "NextPaths" [(0, .ref (a 0)), (1, .int (iI u)), (2, .int (iI v))] (by decide) rfl rfl (Nat.le_of_ble_eq_true rfl) ?_
  intro p e s m args below meth c C hr hk
  refine g_aload_n C d_N_count_0 rfl rfl ?_
  refine g_get C 0 0 i_N wX_0 rfl (by decide) k_N_12 rfl rfl d_N_count_1 rfl ?_
  refine g_iload_n C d_N_count_4 rfl rfl ?_
  refine g_iload_n C d_N_count_5 rfl rfl ?_
  refine g_runI (wX_fix a ki kz kl kq) rfl (rn_VN C (m_G_areTwoNodes hu hv hG.1) 1 2 wX_1 rfl rfl kc_G_areTwoNodes k_N_68 ki_G_areTwoNodes kx_G_areTwoNodes kn_G hy_G_areTwoNodes ⟨rfl, rfl⟩ ⟨by decide, by decide⟩ ⟨Nat.le_refl _, Nat.le_refl _⟩ rfl rfl (Nat.le_of_ble_eq_true rfl) d_N_count_6) (fun r1 S1 hp1 => ?_)
  obtain ⟨hS1, hp1⟩ := hp1
  refine GG.at hS1 ?_
  refine g_if_ne (tgt := 15) C d_N_count_9 (by decide) rfl (by omega) (fun h9 => ?_) (fun h9 => ?_)
  · refine g_aload_n C d_N_count_15 rfl rfl ?_
    refine g_get C 0 2 i_N wX_0 rfl (by decide) k_N_28 rfl rfl d_N_count_16 rfl ?_
    refine g_iload_n C d_N_count_19 rfl rfl ?_
    refine g_iload_n C d_N_count_20 rfl rfl ?_
    refine g_runV (wX_fix a ki kz kl kq) rfl (rn_VN C (m_P_findAll hG hz (by omega) (by omega)) 19 2 wX_19 rfl rfl kc_P_findAll k_N_98 ki_P_findAll kx_P_findAll kn_P hy_P_findAll ⟨rfl, rfl⟩ ⟨by decide, by decide⟩ ⟨Nat.le_refl _, Nat.le_refl _⟩ rfl rfl (Nat.le_of_ble_eq_true rfl) d_N_count_21) (fun S2 hp2 => ?_)
    refine g_aload_n C d_N_count_24 rfl rfl ?_
    refine g_get C 0 1 i_N wX_0 rfl (by decide) k_N_19 rfl rfl d_N_count_25 rfl ?_
    refine g_getN C 17 1 i_H wX_17 rfl (by decide) k_N_102 rfl rfl d_N_count_28 rfl ?_
    refine g_v (z' := ((spS S u v).length : Int)) hp2.2.2.1.1 ?_
    refine g_iret C hr hk d_N_count_31 ⟨_, rfl, ?_⟩
    exact Or.inr ⟨by omega, rfl, hp2.1, hp2.2.1⟩
  · refine g_bipush (z := (-2)) C d_N_count_12 rfl (by decide) ?_
    refine g_iret C hr hk d_N_count_14 ⟨_, rfl, ?_⟩
    exact Or.inl ⟨by omega, rfl, rfl⟩

