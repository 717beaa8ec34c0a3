/-! the reference: next, count, within, pairs -/
def TLY (S : Nat → Int → Int) (P : List Int) (w s2 : Int) : Prop := S 14 0 = 1 ∧ S 15 0 = w ∧ S 16 0 = s2 ∧ S 17 0 = P.length ∧ S 18 0 = rw_ P
abbrev c14 : List Nat := [7, 8, 9, 10, 11, 12, 13, 14, 15, 16, 17, 18, 22, 23]
/-- what find leaves -/
def FD (S S' : Nat → Int → Int) (u v : Int) : Prop := eqx c9 S S' ∧ KP S' (spS S u v)
theorem FD_at {S S' : Nat → Int → Int} {u v : Int} (h : FD S S' u v) {i : Nat} (hi : i < (spS S u v).length) : ENT S' (S 4) (S 5) (S 3) i ((spS S u v).getD i []) := by
  have := h.2.2 i hi
  rw [h.1 4 (by decide), h.1 5 (by decide), h.1 3 (by decide)] at this
  exact this
theorem tell_ok {S S1 S' : Nat → Int → Int} {u v : Int} (h : FD S S1 u v) {i : Nat} (hi : i < (spS S u v).length) {r : Int} (h2 : r = S1 11 i ∧ S' = us (us (us (us (us S1 14 0 1) 15 0 (S1 8 i)) 16 0 (S1 9 i)) 17 0 (S1 11 i)) 18 0 (S1 10 i)) : r = ((spS S u v).getD i []).length ∧ eqx c14 S S' ∧ TLY S' ((spS S u v).getD i []) (wp (S 4) ((spS S u v).getD i [])) (wp (S 5) ((spS S u v).getD i [])) := by
  obtain ⟨h3, rfl⟩ := h2
  obtain ⟨g1, g2, g3, g4, g5, g6⟩ := FD_at h hi
  refine ⟨by rw [h3, g4], eqx_us (eqx_us (eqx_us (eqx_us (eqx_us (eqx_mono h.1 (by decide)) (by decide)) (by decide)) (by decide)) (by decide)) (by decide), ?_⟩
  rw [g1, g2, g3, g4]
  exact ⟨by simp [us, up_], by simp [us, up_], by simp [us, up_], by simp [us, up_], by simp [us, up_]⟩

set_option maxRecDepth 100000 in
set_option maxHeartbeats 4000000 in
theorem m_M_count {l : Launch} {D : va_G} {a : Nat → Nat} {ki kz kl kq : ClassId} {S : Nat → Int → Int} {u v : Int} (hG : GJ S) (hu : r32 u) (hv : r32 v) : MY l D a ki kz kl kq y_M_count b_M_count 3 (some .int) rm_M_count [.ref (a 0), .int (iI u), .int (iI v)] S (pI fun r S' => (¬ twoS S u v ∧ r = -2 ∧ S' = S) ∨ (twoS S u v ∧ r = (spS S u v).length ∧ eqx c9 S S')) := by
  refine MM.go b_M_count 3 (some .int) "NextPathsModel" [(0, .ref (a 0)), (1, .int (iI u)), (2, .int (iI v))] (by decide) rfl rfl (Nat.le_of_ble_eq_true rfl) ?_
  intro p e s m args below meth c C hr hk
  refine g_aload_n C d_M_count_0 rfl rfl ?_
  refine g_iload_n C d_M_count_1 rfl rfl ?_
  refine g_iload_n C d_M_count_2 rfl rfl ?_
  refine g_runI (wY_fix a ki kz kl kq) rfl (rn_V C (m_M_areTwo hu hv hG.1) 0 2 wY_0 rfl rfl kc_M_areTwo k_M_91 ki_M_areTwo kx_M_areTwo kn_M hy_M_areTwo ⟨rfl, rfl⟩ ⟨by decide, by decide⟩ ⟨Nat.le_refl _, Nat.le_refl _⟩ rfl rfl (Nat.le_of_ble_eq_true rfl) d_M_count_3) (fun r1 S1 hp1 => ?_)
  obtain ⟨hS1, hp1⟩ := hp1
  refine GG.at hS1 ?_
  refine g_if_ne (tgt := 12) C d_M_count_6 (by decide) rfl (by omega) (fun h6 => ?_) (fun h6 => ?_)
  · refine g_aload_n C d_M_count_12 rfl rfl ?_
    refine g_iload_n C d_M_count_13 rfl rfl ?_
    refine g_iload_n C d_M_count_14 rfl rfl ?_
    refine g_runV (wY_fix a ki kz kl kq) rfl (rn_V C (m_M_find hG (by omega)) 0 2 wY_0 rfl rfl kc_M_find k_M_122 ki_M_find kx_M_find kn_M hy_M_find ⟨rfl, rfl⟩ ⟨by decide, by decide⟩ ⟨Nat.le_refl _, Nat.le_refl _⟩ rfl rfl (Nat.le_of_ble_eq_true rfl) d_M_count_15) (fun S3 hp3 => ?_)
    have hl58 : (spS S u v).length ≤ 1458 := sp_len hG.2.2 (a := u) (b := v) (by have := hG.1; omega) (by have := hG.1; omega)
    have hFD : FD S S3 u v := hp3
    refine g_aload_n C d_M_count_18 rfl rfl ?_
    refine g_get C 0 7 i_M wY_0 rfl (by decide) k_M_98 rfl rfl d_M_count_19 rfl ?_
    refine g_v (z' := ((spS S u v).length : Int)) hFD.2.1 ?_
    refine g_iret C hr hk d_M_count_22 ⟨_, rfl, ?_⟩
    exact Or.inr ⟨by omega, rfl, hFD.1⟩
  · refine g_bipush (z := (-2)) C d_M_count_9 rfl (by decide) ?_
    refine g_iret C hr hk d_M_count_11 ⟨_, rfl, ?_⟩
    exact Or.inl ⟨by omega, rfl, rfl⟩

set_option maxRecDepth 100000 in
set_option maxHeartbeats 4000000 in
theorem m_M_next {l : Launch} {D : va_G} {a : Nat → Nat} {ki kz kl kq : ClassId} {S : Nat → Int → Int} {u v k : Int} (hG : GJ S) (hu : r32 u) (hv : r32 v) (hk3 : r32 k) : MY l D a ki kz kl kq y_M_next b_M_next 4 (some .int) rm_M_next [.ref (a 0), .int (iI u), .int (iI v), .int (iI k)] S (pI fun r S' => (¬ (twoS S u v ∧ 0 ≤ k ∧ k ≤ 299) ∧ r = -2 ∧ S' = S) ∨ ((twoS S u v ∧ 0 ≤ k ∧ k ≤ 299) ∧ ((((spS S u v).length : Int) ≤ k ∧ r = -1 ∧ eqx c9 S S') ∨ (k < (spS S u v).length ∧ r = ((spS S u v).getD k.toNat []).length ∧ eqx c14 S S' ∧ TLY S' ((spS S u v).getD k.toNat []) (wp (S 4) ((spS S u v).getD k.toNat [])) (wp (S 5) ((spS S u v).getD k.toNat [])))))) := by
  refine MM.go b_M_next 4 (some .int) "NextPathsModel" [(0, .ref (a 0)), (1, .int (iI u)), (2, .int (iI v)), (3, .int (iI k))] (by decide) rfl rfl (Nat.le_of_ble_eq_true rfl) ?_
  intro p e s m args below meth c C hr hk
  refine g_aload_n C d_M_next_0 rfl rfl ?_
  refine g_iload_n C d_M_next_1 rfl rfl ?_
  refine g_iload_n C d_M_next_2 rfl rfl ?_
  refine g_runI (wY_fix a ki kz kl kq) rfl (rn_V C (m_M_areTwo hu hv hG.1) 0 2 wY_0 rfl rfl kc_M_areTwo k_M_91 ki_M_areTwo kx_M_areTwo kn_M hy_M_areTwo ⟨rfl, rfl⟩ ⟨by decide, by decide⟩ ⟨Nat.le_refl _, Nat.le_refl _⟩ rfl rfl (Nat.le_of_ble_eq_true rfl) d_M_next_3) (fun r1 S1 hp1 => ?_)
  obtain ⟨hS1, hp1⟩ := hp1
  refine GG.at hS1 ?_
  refine g_if_eq (tgt := 20) C d_M_next_6 (by decide) rfl (by omega) (fun h6 => ?_) (fun h6 => ?_)
  · refine g_bipush (z := (-2)) C d_M_next_20 rfl (by decide) ?_
    refine g_iret C hr hk d_M_next_22 ⟨_, rfl, ?_⟩
    exact Or.inl ⟨by omega, rfl, rfl⟩
  · refine g_iload_n C d_M_next_9 rfl rfl ?_
    refine g_iconst (z := 0) C d_M_next_10 rfl rfl ?_
    refine g_sipush (z := 299) C d_M_next_11 rfl (by decide) ?_
    refine g_runI (wY_fix a ki kz kl kq) rfl (rn_S C (m_M_isIn hk3 (by decide) (by decide)) 3 kc_M_isIn k_M_83 ks_M_isIn kn_M hy_M_isIn ⟨rfl, rfl⟩ ⟨by decide, by decide⟩ ⟨Nat.le_refl _, Nat.le_refl _⟩ rfl rfl (Nat.le_of_ble_eq_true rfl) d_M_next_14) (fun r2 S2 hp2 => ?_)
    obtain ⟨hS2, hp2⟩ := hp2
    refine GG.at hS2 ?_
    refine g_if_ne (tgt := 23) C d_M_next_17 (by decide) rfl (by omega) (fun h17 => ?_) (fun h17 => ?_)
    · refine g_aload_n C d_M_next_23 rfl rfl ?_
      refine g_iload_n C d_M_next_24 rfl rfl ?_
      refine g_iload_n C d_M_next_25 rfl rfl ?_
      refine g_runV (wY_fix a ki kz kl kq) rfl (rn_V C (m_M_find hG (by omega)) 0 2 wY_0 rfl rfl kc_M_find k_M_122 ki_M_find kx_M_find kn_M hy_M_find ⟨rfl, rfl⟩ ⟨by decide, by decide⟩ ⟨Nat.le_refl _, Nat.le_refl _⟩ rfl rfl (Nat.le_of_ble_eq_true rfl) d_M_next_26) (fun S3 hp3 => ?_)
      have hl58 : (spS S u v).length ≤ 1458 := sp_len hG.2.2 (a := u) (b := v) (by have := hG.1; omega) (by have := hG.1; omega)
      have hFD : FD S S3 u v := hp3
      refine g_iload_n C d_M_next_29 rfl rfl ?_
      refine g_aload_n C d_M_next_30 rfl rfl ?_
      refine g_get C 0 7 i_M wY_0 rfl (by decide) k_M_98 rfl rfl d_M_next_31 rfl ?_
      refine g_v (z' := ((spS S u v).length : Int)) hFD.2.1 ?_
      refine g_icmp_ge (tgt := 45) C d_M_next_34 (by decide) rfl (by omega) (by omega) (fun h34 => ?_) (fun h34 => ?_)
      · refine g_iconst (z := (-1)) C d_M_next_45 rfl rfl ?_
        refine g_iret C hr hk d_M_next_46 ⟨_, rfl, ?_⟩
        first
          | exact Or.inr ⟨by omega, Or.inr ⟨h34, ht⟩⟩
          | exact Or.inr ⟨by omega, Or.inl ⟨h34, rfl, hFD.1⟩⟩
      · refine g_aload_n C d_M_next_37 rfl rfl ?_
        refine g_iload_n C d_M_next_38 rfl rfl ?_
        refine g_runI (wY_fix a ki kz kl kq) rfl (rn_V C (m_M_tell (by omega)) 0 1 wY_0 rfl rfl kc_M_tell k_M_126 ki_M_tell kx_M_tell kn_M hy_M_tell ⟨rfl, rfl⟩ ⟨by decide, by decide⟩ ⟨Nat.le_refl _, Nat.le_refl _⟩ rfl rfl (Nat.le_of_ble_eq_true rfl) d_M_next_39) (fun r5 S5 hp5 => ?_)
        have hkn : ((k.toNat : Nat) : Int) = k := by omega
        rw [← hkn] at hp5
        have ht := tell_ok hFD (i := k.toNat) (by omega) hp5
        refine g_goto (tgt := 46) C d_M_next_42 (by decide) ?_
        refine g_iret C hr hk d_M_next_46 ⟨_, rfl, ?_⟩
        first
          | exact Or.inr ⟨by omega, Or.inr ⟨h34, ht⟩⟩
          | exact Or.inr ⟨by omega, Or.inl ⟨h34, rfl, hFD.1⟩⟩
    · refine g_bipush (z := (-2)) C d_M_next_20 rfl (by decide) ?_
      refine g_iret C hr hk d_M_next_22 ⟨_, rfl, ?_⟩
      exact Or.inl ⟨by omega, rfl, rfl⟩

set_option maxRecDepth 100000 in
set_option maxHeartbeats 4000000 in
theorem lo_M_within {l : Launch} {D : va_G} {a : Nat → Nat} {ki kz kl kq : ClassId} {p : Program} {e : Env} {s : State} {m : MethodId} {args : Array Value} {below : List Frame} {meth : Method} {c : Code} {S0 : Nat → Int → Int} {u v k : Int} {S : Nat → Int → Int} (hG : GJ S0) (h2 : twoS S0 u v) (hk3 : 0 ≤ k ∧ k ≤ 7000) (hl58 : (spS S0 u v).length ≤ 1458) (hFD : FD S0 S u v) (C : CX p s m args c b_M_within 5 "NextPathsModel" TT D cls (tyz ki kz kl kq)) (hr : meth.sig.returnType = (some .int)) (hk : meth.locks = false) : ∀ (j i : Nat), i ≤ (spS S0 u v).length → (spS S0 u v).length ≤ i + j → (∀ j : Nat, j < i → k < wp (S0 5) ((spS S0 u v).getD j [])) → GG p l e rm_M_within s m args below meth c D cls (adr (wY a ki kz kl kq S0)) 5 0 0 (MQ below (QcW D cls (wY a ki kz kl kq) S0 (pI fun r S' => (¬ (twoS S0 u v ∧ 0 ≤ k ∧ k ≤ 7000) ∧ r = -2 ∧ S' = S0) ∨ ((twoS S0 u v ∧ 0 ≤ k ∧ k ≤ 7000) ∧ (((∀ j : Nat, j < (spS S0 u v).length → k < wp (S0 5) ((spS S0 u v).getD j [])) ∧ r = -1 ∧ eqx c9 S0 S') ∨ (∃ i : Nat, i < (spS S0 u v).length ∧ (∀ j : Nat, j < i → k < wp (S0 5) ((spS S0 u v).getD j [])) ∧ wp (S0 5) ((spS S0 u v).getD i []) ≤ k ∧ r = ((spS S0 u v).getD i []).length ∧ eqx c14 S0 S' ∧ TLY S' ((spS S0 u v).getD i []) (wp (S0 4) ((spS S0 u v).getD i [])) (wp (S0 5) ((spS S0 u v).getD i []))))))) args s 0 0 (adr (wY a ki kz kl kq S0))) (wY a ki kz kl kq) S [(4, .int (iI (i : Int))), (0, .ref (a 0)), (1, .int (iI u)), (2, .int (iI v)), (3, .int (iI k))] 32 [] := by
  intro j
  induction j with
  | zero =>
    intro i hi hk0 hI
    refine g_iload C d_M_within_32 rfl rfl ?_
    refine g_aload_n C d_M_within_34 rfl rfl ?_
    refine g_get C 0 7 i_M wY_0 rfl (by decide) k_M_98 rfl rfl d_M_within_35 rfl ?_
    refine g_v (z' := ((spS S0 u v).length : Int)) hFD.2.1 ?_
    refine g_icmp_ge (tgt := 65) C d_M_within_38 (by decide) rfl (by omega) (by omega) (fun h38 => ?_) (fun h38 => ?_)
    · refine g_iconst (z := (-1)) C d_M_within_65 rfl rfl ?_
      refine g_iret C hr hk d_M_within_66 ⟨_, rfl, ?_⟩
      exact Or.inr ⟨by omega, Or.inl ⟨fun j hj => hI j (by omega), rfl, hFD.1⟩⟩
    · exact absurd h38 (by omega)
  | succ j ih =>
    intro i hi hk0 hI
    refine g_iload C d_M_within_32 rfl rfl ?_
    refine g_aload_n C d_M_within_34 rfl rfl ?_
    refine g_get C 0 7 i_M wY_0 rfl (by decide) k_M_98 rfl rfl d_M_within_35 rfl ?_
    refine g_v (z' := ((spS S0 u v).length : Int)) hFD.2.1 ?_
    refine g_icmp_ge (tgt := 65) C d_M_within_38 (by decide) rfl (by omega) (by omega) (fun h38 => ?_) (fun h38 => ?_)
    · refine g_iconst (z := (-1)) C d_M_within_65 rfl rfl ?_
      refine g_iret C hr hk d_M_within_66 ⟨_, rfl, ?_⟩
      exact Or.inr ⟨by omega, Or.inl ⟨fun j hj => hI j (by omega), rfl, hFD.1⟩⟩
    · have hil : i < (spS S0 u v).length := by omega
      have hen := FD_at hFD hil
      have hn8 := hG.1
      have hok5 := sp_ok5 hG.2.2 (a := u) (b := v) (by omega) (P := (spS S0 u v).getD i []) (by simp [hil])
      have h77 := hok5.1
      have hwb := wp_bd (W := S0 5) (fun k => ⟨(hG.2.2.2.2.1 k).2.2.2.2.2.2.1, (hG.2.2.2.2.1 k).2.2.2.2.2.2.2.1⟩) ((spS S0 u v).getD i [])
      refine g_aload_n C d_M_within_41 rfl rfl ?_
      refine g_get C 0 9 i_M wY_0 rfl (by decide) k_M_29 rfl rfl d_M_within_42 rfl ?_
      refine g_iload C d_M_within_45 rfl rfl ?_
      refine g_iald C 7 0 wY_7 rfl (by omega) (by omega) (by decide) d_M_within_47 rfl ?_
      refine g_v (z' := (wp (S0 5) ((spS S0 u v).getD i []))) hen.2.1 ?_
      refine g_iload_n C d_M_within_48 rfl rfl ?_
      refine g_icmp_gt (tgt := 59) C d_M_within_49 (by decide) rfl (by omega) (by omega) (fun h49 => ?_) (fun h49 => ?_)
      · obtain ⟨i2, e_i2⟩ : ∃ z : Int, z = (i : Int) + 1 := ⟨_, rfl⟩
        refine g_iinc (q := 0) (z := i2) (lv' := [(4, .int (iI i2)), (0, .ref (a 0)), (1, .int (iI u)), (2, .int (iI v)), (3, .int (iI k))]) C d_M_within_59 rfl e_i2.symm (by decide) rfl rfl ?_
        refine g_goto (tgt := 32) C d_M_within_62 (by decide) ?_
        refine GG.lvs (lv' := [(4, .int (iI ((i + 1 : Nat) : Int))), (0, .ref (a 0)), (1, .int (iI u)), (2, .int (iI v)), (3, .int (iI k))]) (by rw [show i2 = ((i + 1 : Nat) : Int) by omega]; simp [lk]) ?_
        refine ih (i + 1) (by omega) (by omega) (fun j hj => ?_)
        by_cases ej : j = i
        · subst ej; exact h49
        · exact hI j (by omega)
      · refine g_aload_n C d_M_within_52 rfl rfl ?_
        refine g_iload C d_M_within_53 rfl rfl ?_
        refine g_runI (wY_fix a ki kz kl kq) rfl (rn_V C (m_M_tell (by omega)) 0 1 wY_0 rfl rfl kc_M_tell k_M_126 ki_M_tell kx_M_tell kn_M hy_M_tell ⟨rfl, rfl⟩ ⟨by decide, by decide⟩ ⟨Nat.le_refl _, Nat.le_refl _⟩ rfl rfl (Nat.le_of_ble_eq_true rfl) d_M_within_55) (fun r5 S5 hp5 => ?_)
        have ht := tell_ok hFD hil hp5
        refine g_iret C hr hk d_M_within_58 ⟨_, rfl, ?_⟩
        exact Or.inr ⟨by omega, Or.inr ⟨i, hil, hI, h49, ht⟩⟩

set_option maxRecDepth 100000 in
set_option maxHeartbeats 4000000 in
theorem m_M_within {l : Launch} {D : va_G} {a : Nat → Nat} {ki kz kl kq : ClassId} {S : Nat → Int → Int} {u v k : Int} (hG : GJ S) (hu : r32 u) (hv : r32 v) (hk3 : r32 k) : MY l D a ki kz kl kq y_M_within b_M_within 5 (some .int) rm_M_within [.ref (a 0), .int (iI u), .int (iI v), .int (iI k)] S (pI fun r S' => (¬ (twoS S u v ∧ 0 ≤ k ∧ k ≤ 7000) ∧ r = -2 ∧ S' = S) ∨ ((twoS S u v ∧ 0 ≤ k ∧ k ≤ 7000) ∧ (((∀ j : Nat, j < (spS S u v).length → k < wp (S 5) ((spS S u v).getD j [])) ∧ r = -1 ∧ eqx c9 S S') ∨ (∃ i : Nat, i < (spS S u v).length ∧ (∀ j : Nat, j < i → k < wp (S 5) ((spS S u v).getD j [])) ∧ wp (S 5) ((spS S u v).getD i []) ≤ k ∧ r = ((spS S u v).getD i []).length ∧ eqx c14 S S' ∧ TLY S' ((spS S u v).getD i []) (wp (S 4) ((spS S u v).getD i [])) (wp (S 5) ((spS S u v).getD i [])))))) := by
  refine MM.go b_M_within 5 (some .int) "NextPathsModel" [(0, .ref (a 0)), (1, .int (iI u)), (2, .int (iI v)), (3, .int (iI k))] (by decide) rfl rfl (Nat.le_of_ble_eq_true rfl) ?_
  intro p e s m args below meth c C hr hk
  refine g_aload_n C d_M_within_0 rfl rfl ?_
  refine g_iload_n C d_M_within_1 rfl rfl ?_
  refine g_iload_n C d_M_within_2 rfl rfl ?_
  refine g_runI (wY_fix a ki kz kl kq) rfl (rn_V C (m_M_areTwo hu hv hG.1) 0 2 wY_0 rfl rfl kc_M_areTwo k_M_91 ki_M_areTwo kx_M_areTwo kn_M hy_M_areTwo ⟨rfl, rfl⟩ ⟨by decide, by decide⟩ ⟨Nat.le_refl _, Nat.le_refl _⟩ rfl rfl (Nat.le_of_ble_eq_true rfl) d_M_within_3) (fun r1 S1 hp1 => ?_)
  obtain ⟨hS1, hp1⟩ := hp1
  refine GG.at hS1 ?_
  refine g_if_eq (tgt := 20) C d_M_within_6 (by decide) rfl (by omega) (fun h6 => ?_) (fun h6 => ?_)
  · refine g_bipush (z := (-2)) C d_M_within_20 rfl (by decide) ?_
    refine g_iret C hr hk d_M_within_22 ⟨_, rfl, ?_⟩
    exact Or.inl ⟨by omega, rfl, rfl⟩
  · refine g_iload_n C d_M_within_9 rfl rfl ?_
    refine g_iconst (z := 0) C d_M_within_10 rfl rfl ?_
    refine g_sipush (z := 7000) C d_M_within_11 rfl (by decide) ?_
    refine g_runI (wY_fix a ki kz kl kq) rfl (rn_S C (m_M_isIn hk3 (by decide) (by decide)) 3 kc_M_isIn k_M_83 ks_M_isIn kn_M hy_M_isIn ⟨rfl, rfl⟩ ⟨by decide, by decide⟩ ⟨Nat.le_refl _, Nat.le_refl _⟩ rfl rfl (Nat.le_of_ble_eq_true rfl) d_M_within_14) (fun r2 S2 hp2 => ?_)
    obtain ⟨hS2, hp2⟩ := hp2
    refine GG.at hS2 ?_
    refine g_if_ne (tgt := 23) C d_M_within_17 (by decide) rfl (by omega) (fun h17 => ?_) (fun h17 => ?_)
    · refine g_aload_n C d_M_within_23 rfl rfl ?_
      refine g_iload_n C d_M_within_24 rfl rfl ?_
      refine g_iload_n C d_M_within_25 rfl rfl ?_
      refine g_runV (wY_fix a ki kz kl kq) rfl (rn_V C (m_M_find hG (by omega)) 0 2 wY_0 rfl rfl kc_M_find k_M_122 ki_M_find kx_M_find kn_M hy_M_find ⟨rfl, rfl⟩ ⟨by decide, by decide⟩ ⟨Nat.le_refl _, Nat.le_refl _⟩ rfl rfl (Nat.le_of_ble_eq_true rfl) d_M_within_26) (fun S3 hp3 => ?_)
      have hl58 : (spS S u v).length ≤ 1458 := sp_len hG.2.2 (a := u) (b := v) (by have := hG.1; omega) (by have := hG.1; omega)
      have hFD : FD S S3 u v := hp3
      refine g_iconst (z := 0) C d_M_within_29 rfl rfl ?_
      refine g_nm (fun i0 e_i0 => ?_)
      refine g_istore (lv' := [(4, .int (iI i0)), (0, .ref (a 0)), (1, .int (iI u)), (2, .int (iI v)), (3, .int (iI k))]) C d_M_within_30 (by decide) rfl rfl ?_
      subst e_i0
      exact lo_M_within hG (by omega) (by omega) hl58 hFD C hr hk _ 0 (by omega) (Nat.le_add_left _ _) (fun j hj => by omega)
    · refine g_bipush (z := (-2)) C d_M_within_20 rfl (by decide) ?_
      refine g_iret C hr hk d_M_within_22 ⟨_, rfl, ?_⟩
      exact Or.inl ⟨by omega, rfl, rfl⟩

/-- the pairs of the paths, as they stand in the reference -/
def XP (S : Nat → Int → Int) (X : List (Int × Int)) : Prop := S 7 0 = X.length ∧ X.length ≤ 1458 ∧ ∀ i : Nat, i < X.length → (S 8 i = (X.getD i (0, 0)).1 ∧ S 9 i = (X.getD i (0, 0)).2) ∧ r32 (S 8 i) ∧ r32 (S 9 i)
theorem XP_bt {S : Nat → Int → Int} {X : List (Int × Int)} (h : XP S X) {i j : Nat} (hi : i < X.length) (hj : j < X.length) : bt2 (X.getD i (0, 0)) (X.getD j (0, 0)) ↔ ((S 8 i < S 8 j ∨ S 9 i < S 9 j) ∧ S 8 i ≤ S 8 j ∧ S 9 i ≤ S 9 j) := by
  obtain ⟨⟨a1, a2⟩, -⟩ := h.2.2 i hi
  obtain ⟨⟨b1, b2⟩, -⟩ := h.2.2 j hj
  unfold bt2
  rw [a1, a2, b1, b2]

theorem bt_step {X : List (Int × Int)} {g i : Nat} {z z2 : Int} (h : (z = 1 ∧ ∃ q : Nat, q < i ∧ bt2 (X.getD q (0, 0)) (X.getD g (0, 0))) ∨ (z = 0 ∧ ∀ q : Nat, q < i → ¬ bt2 (X.getD q (0, 0)) (X.getD g (0, 0)))) (hcs : (z2 = 1 ∧ (z = 1 ∨ bt2 (X.getD i (0, 0)) (X.getD g (0, 0)))) ∨ (z2 = 0 ∧ z = 0 ∧ ¬ bt2 (X.getD i (0, 0)) (X.getD g (0, 0)))) : (z2 = 1 ∧ ∃ q : Nat, q < i + 1 ∧ bt2 (X.getD q (0, 0)) (X.getD g (0, 0))) ∨ (z2 = 0 ∧ ∀ q : Nat, q < i + 1 → ¬ bt2 (X.getD q (0, 0)) (X.getD g (0, 0))) := by
  rcases hcs with ⟨h1, h2⟩ | ⟨h1, h2, h3⟩
  · refine Or.inl ⟨h1, ?_⟩
    rcases h2 with h2 | h2
    · rcases h with ⟨-, q, q1, q2⟩ | ⟨hz, -⟩
      · exact ⟨q, by omega, q2⟩
      · exact absurd h2 (by omega)
    · exact ⟨i, by omega, h2⟩
  · refine Or.inr ⟨h1, fun q hq => ?_⟩
    rcases h with ⟨hz, -⟩ | ⟨-, h⟩
    · exact absurd h2 (by omega)
    · by_cases e : q = i
      · subst e; exact h3
      · exact h q (by omega)
theorem bt_end {X : List (Int × Int)} {g : Nat} {z : Int} (h : (z = 1 ∧ ∃ q : Nat, q < X.length ∧ bt2 (X.getD q (0, 0)) (X.getD g (0, 0))) ∨ (z = 0 ∧ ∀ q : Nat, q < X.length → ¬ bt2 (X.getD q (0, 0)) (X.getD g (0, 0)))) : (z = 1 ∧ ∃ q, q ∈ X ∧ bt2 q (X.getD g (0, 0))) ∨ (z = 0 ∧ ∀ q, q ∈ X → ¬ bt2 q (X.getD g (0, 0))) := by
  rcases h with ⟨h1, q, q1, q2⟩ | ⟨h1, h2⟩
  · exact Or.inl ⟨h1, _, by simp [q1], q2⟩
  · refine Or.inr ⟨h1, fun q hq => ?_⟩
    obtain ⟨j, hj, rfl⟩ := List.mem_iff_getElem.mp hq
    have := h2 j hj
    simpa [hj] using this

set_option maxRecDepth 100000 in
set_option maxHeartbeats 4000000 in
theorem lo_M_better {l : Launch} {D : va_G} {a : Nat → Nat} {ki kz kl kq : ClassId} {p : Program} {e : Env} {s : State} {m : MethodId} {args : Array Value} {below : List Frame} {meth : Method} {c : Code} {S : Nat → Int → Int} {X : List (Int × Int)} {g : Nat} (hX : XP S X) (hg : g < X.length) (C : CX p s m args c b_M_isBettered 5 "NextPathsModel" TT D cls (tyz ki kz kl kq)) (hr : meth.sig.returnType = (some .boolean)) (hk : meth.locks = false) : ∀ (j i : Nat) (z : Int), i ≤ X.length → X.length ≤ i + j → ((z = 1 ∧ ∃ q : Nat, q < i ∧ bt2 (X.getD q (0, 0)) (X.getD g (0, 0))) ∨ (z = 0 ∧ ∀ q : Nat, q < i → ¬ bt2 (X.getD q (0, 0)) (X.getD g (0, 0)))) → GG p l e rm_M_isBettered s m args below meth c D cls (adr (wY a ki kz kl kq S)) 5 0 0 (MQ below (QcW D cls (wY a ki kz kl kq) S (pI fun r S' => S' = S ∧ ((r = 1 ∧ ∃ q, q ∈ X ∧ bt2 q (X.getD g (0, 0))) ∨ (r = 0 ∧ ∀ q, q ∈ X → ¬ bt2 q (X.getD g (0, 0)))))) args s 0 0 (adr (wY a ki kz kl kq S))) (wY a ki kz kl kq) S [(3, .int (iI (i : Int))), (2, .int (iI z)), (0, .ref (a 0)), (1, .int (iI (g : Int)))] 4 [] := by
  intro j
  induction j with
  | zero =>
    intro i z hi hk0 hI
    have hz01 : z = 0 ∨ z = 1 := by rcases hI with q | q <;> omega
    have hXl := hX.2.1
    obtain ⟨-, bg1, bg2⟩ := hX.2.2 g hg
    refine g_iload_n C d_M_isBettered_4 rfl rfl ?_
    refine g_aload_n C d_M_isBettered_5 rfl rfl ?_
    refine g_get C 0 7 i_M wY_0 rfl (by decide) k_M_98 rfl rfl d_M_isBettered_6 rfl ?_
    refine g_v (z' := (X.length : Int)) hX.1 ?_
    refine g_icmp_ge (tgt := 100) C d_M_isBettered_9 (by decide) rfl (by omega) (by omega) (fun h9 => ?_) (fun h9 => ?_)
    · refine g_iload_n C d_M_isBettered_100 rfl rfl ?_
      refine g_zret C hr hk (by omega) d_M_isBettered_101 ⟨_, rfl, ?_⟩
      have hil : i = X.length := by omega
      subst hil
      exact ⟨rfl, bt_end hI⟩
    · exact absurd h9 (by omega)
  | succ j ih =>
    intro i z hi hk0 hI
    have hz01 : z = 0 ∨ z = 1 := by rcases hI with q | q <;> omega
    have hXl := hX.2.1
    obtain ⟨-, bg1, bg2⟩ := hX.2.2 g hg
    refine g_iload_n C d_M_isBettered_4 rfl rfl ?_
    refine g_aload_n C d_M_isBettered_5 rfl rfl ?_
    refine g_get C 0 7 i_M wY_0 rfl (by decide) k_M_98 rfl rfl d_M_isBettered_6 rfl ?_
    refine g_v (z' := (X.length : Int)) hX.1 ?_
    refine g_icmp_ge (tgt := 100) C d_M_isBettered_9 (by decide) rfl (by omega) (by omega) (fun h9 => ?_) (fun h9 => ?_)
    · refine g_iload_n C d_M_isBettered_100 rfl rfl ?_
      refine g_zret C hr hk (by omega) d_M_isBettered_101 ⟨_, rfl, ?_⟩
      have hil : i = X.length := by omega
      subst hil
      exact ⟨rfl, bt_end hI⟩
    · have hil : i < X.length := by omega
      obtain ⟨-, bi1, bi2⟩ := hX.2.2 i hil
      have hbt := XP_bt hX hil hg
      refine g_aload_n C d_M_isBettered_12 rfl rfl ?_
      refine g_get C 0 8 i_M wY_0 rfl (by decide) k_M_26 rfl rfl d_M_isBettered_13 rfl ?_
      refine g_iload_n C d_M_isBettered_16 rfl rfl ?_
      refine g_iald C 6 0 wY_6 rfl (by omega) (by omega) (by decide) d_M_isBettered_17 rfl ?_
      refine g_aload_n C d_M_isBettered_18 rfl rfl ?_
      refine g_get C 0 8 i_M wY_0 rfl (by decide) k_M_26 rfl rfl d_M_isBettered_19 rfl ?_
      refine g_iload_n C d_M_isBettered_22 rfl rfl ?_
      refine g_iald C 6 0 wY_6 rfl (by omega) (by omega) (by decide) d_M_isBettered_23 rfl ?_
      refine g_icmp_lt (tgt := 42) C d_M_isBettered_24 (by decide) rfl (by omega) (by omega) (fun h24 => ?_) (fun h24 => ?_)
      · refine g_iconst (z := 1) C d_M_isBettered_42 rfl rfl ?_
        refine g_goto (tgt := 47) C d_M_isBettered_43 (by decide) ?_
        refine g_nm (fun l4 e_l4 => ?_)
        refine g_istore (lv' := [(4, .int (iI l4)), (3, .int (iI (i : Int))), (2, .int (iI z)), (0, .ref (a 0)), (1, .int (iI (g : Int)))]) C d_M_isBettered_47 (by decide) rfl rfl ?_
        refine g_iload_n C d_M_isBettered_49 rfl rfl ?_
        refine g_if_ne (tgt := 88) C d_M_isBettered_50 (by decide) rfl (by omega) (fun h50 => ?_) (fun h50 => ?_)
        · refine g_iconst (z := 1) C d_M_isBettered_88 rfl rfl ?_
          refine g_goto (tgt := 93) C d_M_isBettered_89 (by decide) ?_
          refine g_nm (fun z2 e_z2 => ?_)
          refine g_istore_n (lv' := [(2, .int (iI z2)), (4, .int (iI l4)), (3, .int (iI (i : Int))), (0, .ref (a 0)), (1, .int (iI (g : Int)))]) C d_M_isBettered_93 (by decide) rfl rfl ?_
          obtain ⟨i2, e_i2⟩ : ∃ z : Int, z = (i : Int) + 1 := ⟨_, rfl⟩
          refine g_iinc (q := 2) (z := i2) (lv' := [(3, .int (iI i2)), (2, .int (iI z2)), (4, .int (iI l4)), (0, .ref (a 0)), (1, .int (iI (g : Int)))]) C d_M_isBettered_94 rfl e_i2.symm (by decide) rfl rfl ?_
          refine g_goto (tgt := 4) C d_M_isBettered_97 (by decide) ?_
          have hcs : (z2 = 1 ∧ (z = 1 ∨ ((S 8 i < S 8 g ∨ S 9 i < S 9 g) ∧ S 8 i ≤ S 8 g ∧ S 9 i ≤ S 9 g))) ∨ (z2 = 0 ∧ z = 0 ∧ ¬ ((S 8 i < S 8 g ∨ S 9 i < S 9 g) ∧ S 8 i ≤ S 8 g ∧ S 9 i ≤ S 9 g)) := by omega
          refine GG.lvs (lv' := [(3, .int (iI ((i + 1 : Nat) : Int))), (2, .int (iI z2)), (0, .ref (a 0)), (1, .int (iI (g : Int)))]) (by rw [show i2 = ((i + 1 : Nat) : Int) by omega]; simp [lk]) ?_
          refine ih (i + 1) z2 (by omega) (by omega) ?_
          rw [← hbt] at hcs
          exact bt_step hI hcs
        · refine g_iload C d_M_isBettered_53 rfl rfl ?_
          refine g_if_eq (tgt := 92) C d_M_isBettered_55 (by decide) rfl (by omega) (fun h55 => ?_) (fun h55 => ?_)
          · refine g_iconst (z := 0) C d_M_isBettered_92 rfl rfl ?_
            refine g_nm (fun z2 e_z2 => ?_)
            refine g_istore_n (lv' := [(2, .int (iI z2)), (4, .int (iI l4)), (3, .int (iI (i : Int))), (0, .ref (a 0)), (1, .int (iI (g : Int)))]) C d_M_isBettered_93 (by decide) rfl rfl ?_
            obtain ⟨i2, e_i2⟩ : ∃ z : Int, z = (i : Int) + 1 := ⟨_, rfl⟩
            refine g_iinc (q := 2) (z := i2) (lv' := [(3, .int (iI i2)), (2, .int (iI z2)), (4, .int (iI l4)), (0, .ref (a 0)), (1, .int (iI (g : Int)))]) C d_M_isBettered_94 rfl e_i2.symm (by decide) rfl rfl ?_
            refine g_goto (tgt := 4) C d_M_isBettered_97 (by decide) ?_
            have hcs : (z2 = 1 ∧ (z = 1 ∨ ((S 8 i < S 8 g ∨ S 9 i < S 9 g) ∧ S 8 i ≤ S 8 g ∧ S 9 i ≤ S 9 g))) ∨ (z2 = 0 ∧ z = 0 ∧ ¬ ((S 8 i < S 8 g ∨ S 9 i < S 9 g) ∧ S 8 i ≤ S 8 g ∧ S 9 i ≤ S 9 g)) := by omega
            refine GG.lvs (lv' := [(3, .int (iI ((i + 1 : Nat) : Int))), (2, .int (iI z2)), (0, .ref (a 0)), (1, .int (iI (g : Int)))]) (by rw [show i2 = ((i + 1 : Nat) : Int) by omega]; simp [lk]) ?_
            refine ih (i + 1) z2 (by omega) (by omega) ?_
            rw [← hbt] at hcs
            exact bt_step hI hcs
          · refine g_aload_n C d_M_isBettered_58 rfl rfl ?_
            refine g_get C 0 8 i_M wY_0 rfl (by decide) k_M_26 rfl rfl d_M_isBettered_59 rfl ?_
            refine g_iload_n C d_M_isBettered_62 rfl rfl ?_
            refine g_iald C 6 0 wY_6 rfl (by omega) (by omega) (by decide) d_M_isBettered_63 rfl ?_
            refine g_aload_n C d_M_isBettered_64 rfl rfl ?_
            refine g_get C 0 8 i_M wY_0 rfl (by decide) k_M_26 rfl rfl d_M_isBettered_65 rfl ?_
            refine g_iload_n C d_M_isBettered_68 rfl rfl ?_
            refine g_iald C 6 0 wY_6 rfl (by omega) (by omega) (by decide) d_M_isBettered_69 rfl ?_
            refine g_icmp_gt (tgt := 92) C d_M_isBettered_70 (by decide) rfl (by omega) (by omega) (fun h70 => ?_) (fun h70 => ?_)
            · refine g_iconst (z := 0) C d_M_isBettered_92 rfl rfl ?_
              refine g_nm (fun z2 e_z2 => ?_)
              refine g_istore_n (lv' := [(2, .int (iI z2)), (4, .int (iI l4)), (3, .int (iI (i : Int))), (0, .ref (a 0)), (1, .int (iI (g : Int)))]) C d_M_isBettered_93 (by decide) rfl rfl ?_
              obtain ⟨i2, e_i2⟩ : ∃ z : Int, z = (i : Int) + 1 := ⟨_, rfl⟩
              refine g_iinc (q := 2) (z := i2) (lv' := [(3, .int (iI i2)), (2, .int (iI z2)), (4, .int (iI l4)), (0, .ref (a 0)), (1, .int (iI (g : Int)))]) C d_M_isBettered_94 rfl e_i2.symm (by decide) rfl rfl ?_
              refine g_goto (tgt := 4) C d_M_isBettered_97 (by decide) ?_
              have hcs : (z2 = 1 ∧ (z = 1 ∨ ((S 8 i < S 8 g ∨ S 9 i < S 9 g) ∧ S 8 i ≤ S 8 g ∧ S 9 i ≤ S 9 g))) ∨ (z2 = 0 ∧ z = 0 ∧ ¬ ((S 8 i < S 8 g ∨ S 9 i < S 9 g) ∧ S 8 i ≤ S 8 g ∧ S 9 i ≤ S 9 g)) := by omega
              refine GG.lvs (lv' := [(3, .int (iI ((i + 1 : Nat) : Int))), (2, .int (iI z2)), (0, .ref (a 0)), (1, .int (iI (g : Int)))]) (by rw [show i2 = ((i + 1 : Nat) : Int) by omega]; simp [lk]) ?_
              refine ih (i + 1) z2 (by omega) (by omega) ?_
              rw [← hbt] at hcs
              exact bt_step hI hcs
            · refine g_aload_n C d_M_isBettered_73 rfl rfl ?_
              refine g_get C 0 9 i_M wY_0 rfl (by decide) k_M_29 rfl rfl d_M_isBettered_74 rfl ?_
              refine g_iload_n C d_M_isBettered_77 rfl rfl ?_
              refine g_iald C 7 0 wY_7 rfl (by omega) (by omega) (by decide) d_M_isBettered_78 rfl ?_
              refine g_aload_n C d_M_isBettered_79 rfl rfl ?_
              refine g_get C 0 9 i_M wY_0 rfl (by decide) k_M_29 rfl rfl d_M_isBettered_80 rfl ?_
              refine g_iload_n C d_M_isBettered_83 rfl rfl ?_
              refine g_iald C 7 0 wY_7 rfl (by omega) (by omega) (by decide) d_M_isBettered_84 rfl ?_
              refine g_icmp_gt (tgt := 92) C d_M_isBettered_85 (by decide) rfl (by omega) (by omega) (fun h85 => ?_) (fun h85 => ?_)
              · refine g_iconst (z := 0) C d_M_isBettered_92 rfl rfl ?_
                refine g_nm (fun z2 e_z2 => ?_)
                refine g_istore_n (lv' := [(2, .int (iI z2)), (4, .int (iI l4)), (3, .int (iI (i : Int))), (0, .ref (a 0)), (1, .int (iI (g : Int)))]) C d_M_isBettered_93 (by decide) rfl rfl ?_
                obtain ⟨i2, e_i2⟩ : ∃ z : Int, z = (i : Int) + 1 := ⟨_, rfl⟩
                refine g_iinc (q := 2) (z := i2) (lv' := [(3, .int (iI i2)), (2, .int (iI z2)), (4, .int (iI l4)), (0, .ref (a 0)), (1, .int (iI (g : Int)))]) C d_M_isBettered_94 rfl e_i2.symm (by decide) rfl rfl ?_
                refine g_goto (tgt := 4) C d_M_isBettered_97 (by decide) ?_
                have hcs : (z2 = 1 ∧ (z = 1 ∨ ((S 8 i < S 8 g ∨ S 9 i < S 9 g) ∧ S 8 i ≤ S 8 g ∧ S 9 i ≤ S 9 g))) ∨ (z2 = 0 ∧ z = 0 ∧ ¬ ((S 8 i < S 8 g ∨ S 9 i < S 9 g) ∧ S 8 i ≤ S 8 g ∧ S 9 i ≤ S 9 g)) := by omega
                refine GG.lvs (lv' := [(3, .int (iI ((i + 1 : Nat) : Int))), (2, .int (iI z2)), (0, .ref (a 0)), (1, .int (iI (g : Int)))]) (by rw [show i2 = ((i + 1 : Nat) : Int) by omega]; simp [lk]) ?_
                refine ih (i + 1) z2 (by omega) (by omega) ?_
                rw [← hbt] at hcs
                exact bt_step hI hcs
              · refine g_iconst (z := 1) C d_M_isBettered_88 rfl rfl ?_
                refine g_goto (tgt := 93) C d_M_isBettered_89 (by decide) ?_
                refine g_nm (fun z2 e_z2 => ?_)
                refine g_istore_n (lv' := [(2, .int (iI z2)), (4, .int (iI l4)), (3, .int (iI (i : Int))), (0, .ref (a 0)), (1, .int (iI (g : Int)))]) C d_M_isBettered_93 (by decide) rfl rfl ?_
                obtain ⟨i2, e_i2⟩ : ∃ z : Int, z = (i : Int) + 1 := ⟨_, rfl⟩
                refine g_iinc (q := 2) (z := i2) (lv' := [(3, .int (iI i2)), (2, .int (iI z2)), (4, .int (iI l4)), (0, .ref (a 0)), (1, .int (iI (g : Int)))]) C d_M_isBettered_94 rfl e_i2.symm (by decide) rfl rfl ?_
                refine g_goto (tgt := 4) C d_M_isBettered_97 (by decide) ?_
                have hcs : (z2 = 1 ∧ (z = 1 ∨ ((S 8 i < S 8 g ∨ S 9 i < S 9 g) ∧ S 8 i ≤ S 8 g ∧ S 9 i ≤ S 9 g))) ∨ (z2 = 0 ∧ z = 0 ∧ ¬ ((S 8 i < S 8 g ∨ S 9 i < S 9 g) ∧ S 8 i ≤ S 8 g ∧ S 9 i ≤ S 9 g)) := by omega
                refine GG.lvs (lv' := [(3, .int (iI ((i + 1 : Nat) : Int))), (2, .int (iI z2)), (0, .ref (a 0)), (1, .int (iI (g : Int)))]) (by rw [show i2 = ((i + 1 : Nat) : Int) by omega]; simp [lk]) ?_
                refine ih (i + 1) z2 (by omega) (by omega) ?_
                rw [← hbt] at hcs
                exact bt_step hI hcs
      · refine g_aload_n C d_M_isBettered_27 rfl rfl ?_
        refine g_get C 0 9 i_M wY_0 rfl (by decide) k_M_29 rfl rfl d_M_isBettered_28 rfl ?_
        refine g_iload_n C d_M_isBettered_31 rfl rfl ?_
        refine g_iald C 7 0 wY_7 rfl (by omega) (by omega) (by decide) d_M_isBettered_32 rfl ?_
        refine g_aload_n C d_M_isBettered_33 rfl rfl ?_
        refine g_get C 0 9 i_M wY_0 rfl (by decide) k_M_29 rfl rfl d_M_isBettered_34 rfl ?_
        refine g_iload_n C d_M_isBettered_37 rfl rfl ?_
        refine g_iald C 7 0 wY_7 rfl (by omega) (by omega) (by decide) d_M_isBettered_38 rfl ?_
        refine g_icmp_ge (tgt := 46) C d_M_isBettered_39 (by decide) rfl (by omega) (by omega) (fun h39 => ?_) (fun h39 => ?_)
        · refine g_iconst (z := 0) C d_M_isBettered_46 rfl rfl ?_
          refine g_nm (fun l4 e_l4 => ?_)
          refine g_istore (lv' := [(4, .int (iI l4)), (3, .int (iI (i : Int))), (2, .int (iI z)), (0, .ref (a 0)), (1, .int (iI (g : Int)))]) C d_M_isBettered_47 (by decide) rfl rfl ?_
          refine g_iload_n C d_M_isBettered_49 rfl rfl ?_
          refine g_if_ne (tgt := 88) C d_M_isBettered_50 (by decide) rfl (by omega) (fun h50 => ?_) (fun h50 => ?_)
          · refine g_iconst (z := 1) C d_M_isBettered_88 rfl rfl ?_
            refine g_goto (tgt := 93) C d_M_isBettered_89 (by decide) ?_
            refine g_nm (fun z2 e_z2 => ?_)
            refine g_istore_n (lv' := [(2, .int (iI z2)), (4, .int (iI l4)), (3, .int (iI (i : Int))), (0, .ref (a 0)), (1, .int (iI (g : Int)))]) C d_M_isBettered_93 (by decide) rfl rfl ?_
            obtain ⟨i2, e_i2⟩ : ∃ z : Int, z = (i : Int) + 1 := ⟨_, rfl⟩
            refine g_iinc (q := 2) (z := i2) (lv' := [(3, .int (iI i2)), (2, .int (iI z2)), (4, .int (iI l4)), (0, .ref (a 0)), (1, .int (iI (g : Int)))]) C d_M_isBettered_94 rfl e_i2.symm (by decide) rfl rfl ?_
            refine g_goto (tgt := 4) C d_M_isBettered_97 (by decide) ?_
            have hcs : (z2 = 1 ∧ (z = 1 ∨ ((S 8 i < S 8 g ∨ S 9 i < S 9 g) ∧ S 8 i ≤ S 8 g ∧ S 9 i ≤ S 9 g))) ∨ (z2 = 0 ∧ z = 0 ∧ ¬ ((S 8 i < S 8 g ∨ S 9 i < S 9 g) ∧ S 8 i ≤ S 8 g ∧ S 9 i ≤ S 9 g)) := by omega
            refine GG.lvs (lv' := [(3, .int (iI ((i + 1 : Nat) : Int))), (2, .int (iI z2)), (0, .ref (a 0)), (1, .int (iI (g : Int)))]) (by rw [show i2 = ((i + 1 : Nat) : Int) by omega]; simp [lk]) ?_
            refine ih (i + 1) z2 (by omega) (by omega) ?_
            rw [← hbt] at hcs
            exact bt_step hI hcs
          · refine g_iload C d_M_isBettered_53 rfl rfl ?_
            refine g_if_eq (tgt := 92) C d_M_isBettered_55 (by decide) rfl (by omega) (fun h55 => ?_) (fun h55 => ?_)
            · refine g_iconst (z := 0) C d_M_isBettered_92 rfl rfl ?_
              refine g_nm (fun z2 e_z2 => ?_)
              refine g_istore_n (lv' := [(2, .int (iI z2)), (4, .int (iI l4)), (3, .int (iI (i : Int))), (0, .ref (a 0)), (1, .int (iI (g : Int)))]) C d_M_isBettered_93 (by decide) rfl rfl ?_
              obtain ⟨i2, e_i2⟩ : ∃ z : Int, z = (i : Int) + 1 := ⟨_, rfl⟩
              refine g_iinc (q := 2) (z := i2) (lv' := [(3, .int (iI i2)), (2, .int (iI z2)), (4, .int (iI l4)), (0, .ref (a 0)), (1, .int (iI (g : Int)))]) C d_M_isBettered_94 rfl e_i2.symm (by decide) rfl rfl ?_
              refine g_goto (tgt := 4) C d_M_isBettered_97 (by decide) ?_
              have hcs : (z2 = 1 ∧ (z = 1 ∨ ((S 8 i < S 8 g ∨ S 9 i < S 9 g) ∧ S 8 i ≤ S 8 g ∧ S 9 i ≤ S 9 g))) ∨ (z2 = 0 ∧ z = 0 ∧ ¬ ((S 8 i < S 8 g ∨ S 9 i < S 9 g) ∧ S 8 i ≤ S 8 g ∧ S 9 i ≤ S 9 g)) := by omega
              refine GG.lvs (lv' := [(3, .int (iI ((i + 1 : Nat) : Int))), (2, .int (iI z2)), (0, .ref (a 0)), (1, .int (iI (g : Int)))]) (by rw [show i2 = ((i + 1 : Nat) : Int) by omega]; simp [lk]) ?_
              refine ih (i + 1) z2 (by omega) (by omega) ?_
              rw [← hbt] at hcs
              exact bt_step hI hcs
            · refine g_aload_n C d_M_isBettered_58 rfl rfl ?_
              refine g_get C 0 8 i_M wY_0 rfl (by decide) k_M_26 rfl rfl d_M_isBettered_59 rfl ?_
              refine g_iload_n C d_M_isBettered_62 rfl rfl ?_
              refine g_iald C 6 0 wY_6 rfl (by omega) (by omega) (by decide) d_M_isBettered_63 rfl ?_
              refine g_aload_n C d_M_isBettered_64 rfl rfl ?_
              refine g_get C 0 8 i_M wY_0 rfl (by decide) k_M_26 rfl rfl d_M_isBettered_65 rfl ?_
              refine g_iload_n C d_M_isBettered_68 rfl rfl ?_
              refine g_iald C 6 0 wY_6 rfl (by omega) (by omega) (by decide) d_M_isBettered_69 rfl ?_
              refine g_icmp_gt (tgt := 92) C d_M_isBettered_70 (by decide) rfl (by omega) (by omega) (fun h70 => ?_) (fun h70 => ?_)
              · refine g_iconst (z := 0) C d_M_isBettered_92 rfl rfl ?_
                refine g_nm (fun z2 e_z2 => ?_)
                refine g_istore_n (lv' := [(2, .int (iI z2)), (4, .int (iI l4)), (3, .int (iI (i : Int))), (0, .ref (a 0)), (1, .int (iI (g : Int)))]) C d_M_isBettered_93 (by decide) rfl rfl ?_
                obtain ⟨i2, e_i2⟩ : ∃ z : Int, z = (i : Int) + 1 := ⟨_, rfl⟩
                refine g_iinc (q := 2) (z := i2) (lv' := [(3, .int (iI i2)), (2, .int (iI z2)), (4, .int (iI l4)), (0, .ref (a 0)), (1, .int (iI (g : Int)))]) C d_M_isBettered_94 rfl e_i2.symm (by decide) rfl rfl ?_
                refine g_goto (tgt := 4) C d_M_isBettered_97 (by decide) ?_
                have hcs : (z2 = 1 ∧ (z = 1 ∨ ((S 8 i < S 8 g ∨ S 9 i < S 9 g) ∧ S 8 i ≤ S 8 g ∧ S 9 i ≤ S 9 g))) ∨ (z2 = 0 ∧ z = 0 ∧ ¬ ((S 8 i < S 8 g ∨ S 9 i < S 9 g) ∧ S 8 i ≤ S 8 g ∧ S 9 i ≤ S 9 g)) := by omega
                refine GG.lvs (lv' := [(3, .int (iI ((i + 1 : Nat) : Int))), (2, .int (iI z2)), (0, .ref (a 0)), (1, .int (iI (g : Int)))]) (by rw [show i2 = ((i + 1 : Nat) : Int) by omega]; simp [lk]) ?_
                refine ih (i + 1) z2 (by omega) (by omega) ?_
                rw [← hbt] at hcs
                exact bt_step hI hcs
              · refine g_aload_n C d_M_isBettered_73 rfl rfl ?_
                refine g_get C 0 9 i_M wY_0 rfl (by decide) k_M_29 rfl rfl d_M_isBettered_74 rfl ?_
                refine g_iload_n C d_M_isBettered_77 rfl rfl ?_
                refine g_iald C 7 0 wY_7 rfl (by omega) (by omega) (by decide) d_M_isBettered_78 rfl ?_
                refine g_aload_n C d_M_isBettered_79 rfl rfl ?_
                refine g_get C 0 9 i_M wY_0 rfl (by decide) k_M_29 rfl rfl d_M_isBettered_80 rfl ?_
                refine g_iload_n C d_M_isBettered_83 rfl rfl ?_
                refine g_iald C 7 0 wY_7 rfl (by omega) (by omega) (by decide) d_M_isBettered_84 rfl ?_
                refine g_icmp_gt (tgt := 92) C d_M_isBettered_85 (by decide) rfl (by omega) (by omega) (fun h85 => ?_) (fun h85 => ?_)
                · refine g_iconst (z := 0) C d_M_isBettered_92 rfl rfl ?_
                  refine g_nm (fun z2 e_z2 => ?_)
                  refine g_istore_n (lv' := [(2, .int (iI z2)), (4, .int (iI l4)), (3, .int (iI (i : Int))), (0, .ref (a 0)), (1, .int (iI (g : Int)))]) C d_M_isBettered_93 (by decide) rfl rfl ?_
                  obtain ⟨i2, e_i2⟩ : ∃ z : Int, z = (i : Int) + 1 := ⟨_, rfl⟩
                  refine g_iinc (q := 2) (z := i2) (lv' := [(3, .int (iI i2)), (2, .int (iI z2)), (4, .int (iI l4)), (0, .ref (a 0)), (1, .int (iI (g : Int)))]) C d_M_isBettered_94 rfl e_i2.symm (by decide) rfl rfl ?_
                  refine g_goto (tgt := 4) C d_M_isBettered_97 (by decide) ?_
                  have hcs : (z2 = 1 ∧ (z = 1 ∨ ((S 8 i < S 8 g ∨ S 9 i < S 9 g) ∧ S 8 i ≤ S 8 g ∧ S 9 i ≤ S 9 g))) ∨ (z2 = 0 ∧ z = 0 ∧ ¬ ((S 8 i < S 8 g ∨ S 9 i < S 9 g) ∧ S 8 i ≤ S 8 g ∧ S 9 i ≤ S 9 g)) := by omega
                  refine GG.lvs (lv' := [(3, .int (iI ((i + 1 : Nat) : Int))), (2, .int (iI z2)), (0, .ref (a 0)), (1, .int (iI (g : Int)))]) (by rw [show i2 = ((i + 1 : Nat) : Int) by omega]; simp [lk]) ?_
                  refine ih (i + 1) z2 (by omega) (by omega) ?_
                  rw [← hbt] at hcs
                  exact bt_step hI hcs
                · refine g_iconst (z := 1) C d_M_isBettered_88 rfl rfl ?_
                  refine g_goto (tgt := 93) C d_M_isBettered_89 (by decide) ?_
                  refine g_nm (fun z2 e_z2 => ?_)
                  refine g_istore_n (lv' := [(2, .int (iI z2)), (4, .int (iI l4)), (3, .int (iI (i : Int))), (0, .ref (a 0)), (1, .int (iI (g : Int)))]) C d_M_isBettered_93 (by decide) rfl rfl ?_
                  obtain ⟨i2, e_i2⟩ : ∃ z : Int, z = (i : Int) + 1 := ⟨_, rfl⟩
                  refine g_iinc (q := 2) (z := i2) (lv' := [(3, .int (iI i2)), (2, .int (iI z2)), (4, .int (iI l4)), (0, .ref (a 0)), (1, .int (iI (g : Int)))]) C d_M_isBettered_94 rfl e_i2.symm (by decide) rfl rfl ?_
                  refine g_goto (tgt := 4) C d_M_isBettered_97 (by decide) ?_
                  have hcs : (z2 = 1 ∧ (z = 1 ∨ ((S 8 i < S 8 g ∨ S 9 i < S 9 g) ∧ S 8 i ≤ S 8 g ∧ S 9 i ≤ S 9 g))) ∨ (z2 = 0 ∧ z = 0 ∧ ¬ ((S 8 i < S 8 g ∨ S 9 i < S 9 g) ∧ S 8 i ≤ S 8 g ∧ S 9 i ≤ S 9 g)) := by omega
                  refine GG.lvs (lv' := [(3, .int (iI ((i + 1 : Nat) : Int))), (2, .int (iI z2)), (0, .ref (a 0)), (1, .int (iI (g : Int)))]) (by rw [show i2 = ((i + 1 : Nat) : Int) by omega]; simp [lk]) ?_
                  refine ih (i + 1) z2 (by omega) (by omega) ?_
                  rw [← hbt] at hcs
                  exact bt_step hI hcs
        · refine g_iconst (z := 1) C d_M_isBettered_42 rfl rfl ?_
          refine g_goto (tgt := 47) C d_M_isBettered_43 (by decide) ?_
          refine g_nm (fun l4 e_l4 => ?_)
          refine g_istore (lv' := [(4, .int (iI l4)), (3, .int (iI (i : Int))), (2, .int (iI z)), (0, .ref (a 0)), (1, .int (iI (g : Int)))]) C d_M_isBettered_47 (by decide) rfl rfl ?_
          refine g_iload_n C d_M_isBettered_49 rfl rfl ?_
          refine g_if_ne (tgt := 88) C d_M_isBettered_50 (by decide) rfl (by omega) (fun h50 => ?_) (fun h50 => ?_)
          · refine g_iconst (z := 1) C d_M_isBettered_88 rfl rfl ?_
            refine g_goto (tgt := 93) C d_M_isBettered_89 (by decide) ?_
            refine g_nm (fun z2 e_z2 => ?_)
            refine g_istore_n (lv' := [(2, .int (iI z2)), (4, .int (iI l4)), (3, .int (iI (i : Int))), (0, .ref (a 0)), (1, .int (iI (g : Int)))]) C d_M_isBettered_93 (by decide) rfl rfl ?_
            obtain ⟨i2, e_i2⟩ : ∃ z : Int, z = (i : Int) + 1 := ⟨_, rfl⟩
            refine g_iinc (q := 2) (z := i2) (lv' := [(3, .int (iI i2)), (2, .int (iI z2)), (4, .int (iI l4)), (0, .ref (a 0)), (1, .int (iI (g : Int)))]) C d_M_isBettered_94 rfl e_i2.symm (by decide) rfl rfl ?_
            refine g_goto (tgt := 4) C d_M_isBettered_97 (by decide) ?_
            have hcs : (z2 = 1 ∧ (z = 1 ∨ ((S 8 i < S 8 g ∨ S 9 i < S 9 g) ∧ S 8 i ≤ S 8 g ∧ S 9 i ≤ S 9 g))) ∨ (z2 = 0 ∧ z = 0 ∧ ¬ ((S 8 i < S 8 g ∨ S 9 i < S 9 g) ∧ S 8 i ≤ S 8 g ∧ S 9 i ≤ S 9 g)) := by omega
            refine GG.lvs (lv' := [(3, .int (iI ((i + 1 : Nat) : Int))), (2, .int (iI z2)), (0, .ref (a 0)), (1, .int (iI (g : Int)))]) (by rw [show i2 = ((i + 1 : Nat) : Int) by omega]; simp [lk]) ?_
            refine ih (i + 1) z2 (by omega) (by omega) ?_
            rw [← hbt] at hcs
            exact bt_step hI hcs
          · refine g_iload C d_M_isBettered_53 rfl rfl ?_
            refine g_if_eq (tgt := 92) C d_M_isBettered_55 (by decide) rfl (by omega) (fun h55 => ?_) (fun h55 => ?_)
            · refine g_iconst (z := 0) C d_M_isBettered_92 rfl rfl ?_
              refine g_nm (fun z2 e_z2 => ?_)
              refine g_istore_n (lv' := [(2, .int (iI z2)), (4, .int (iI l4)), (3, .int (iI (i : Int))), (0, .ref (a 0)), (1, .int (iI (g : Int)))]) C d_M_isBettered_93 (by decide) rfl rfl ?_
              obtain ⟨i2, e_i2⟩ : ∃ z : Int, z = (i : Int) + 1 := ⟨_, rfl⟩
              refine g_iinc (q := 2) (z := i2) (lv' := [(3, .int (iI i2)), (2, .int (iI z2)), (4, .int (iI l4)), (0, .ref (a 0)), (1, .int (iI (g : Int)))]) C d_M_isBettered_94 rfl e_i2.symm (by decide) rfl rfl ?_
              refine g_goto (tgt := 4) C d_M_isBettered_97 (by decide) ?_
              have hcs : (z2 = 1 ∧ (z = 1 ∨ ((S 8 i < S 8 g ∨ S 9 i < S 9 g) ∧ S 8 i ≤ S 8 g ∧ S 9 i ≤ S 9 g))) ∨ (z2 = 0 ∧ z = 0 ∧ ¬ ((S 8 i < S 8 g ∨ S 9 i < S 9 g) ∧ S 8 i ≤ S 8 g ∧ S 9 i ≤ S 9 g)) := by omega
              refine GG.lvs (lv' := [(3, .int (iI ((i + 1 : Nat) : Int))), (2, .int (iI z2)), (0, .ref (a 0)), (1, .int (iI (g : Int)))]) (by rw [show i2 = ((i + 1 : Nat) : Int) by omega]; simp [lk]) ?_
              refine ih (i + 1) z2 (by omega) (by omega) ?_
              rw [← hbt] at hcs
              exact bt_step hI hcs
            · refine g_aload_n C d_M_isBettered_58 rfl rfl ?_
              refine g_get C 0 8 i_M wY_0 rfl (by decide) k_M_26 rfl rfl d_M_isBettered_59 rfl ?_
              refine g_iload_n C d_M_isBettered_62 rfl rfl ?_
              refine g_iald C 6 0 wY_6 rfl (by omega) (by omega) (by decide) d_M_isBettered_63 rfl ?_
              refine g_aload_n C d_M_isBettered_64 rfl rfl ?_
              refine g_get C 0 8 i_M wY_0 rfl (by decide) k_M_26 rfl rfl d_M_isBettered_65 rfl ?_
              refine g_iload_n C d_M_isBettered_68 rfl rfl ?_
              refine g_iald C 6 0 wY_6 rfl (by omega) (by omega) (by decide) d_M_isBettered_69 rfl ?_
              refine g_icmp_gt (tgt := 92) C d_M_isBettered_70 (by decide) rfl (by omega) (by omega) (fun h70 => ?_) (fun h70 => ?_)
              · refine g_iconst (z := 0) C d_M_isBettered_92 rfl rfl ?_
                refine g_nm (fun z2 e_z2 => ?_)
                refine g_istore_n (lv' := [(2, .int (iI z2)), (4, .int (iI l4)), (3, .int (iI (i : Int))), (0, .ref (a 0)), (1, .int (iI (g : Int)))]) C d_M_isBettered_93 (by decide) rfl rfl ?_
                obtain ⟨i2, e_i2⟩ : ∃ z : Int, z = (i : Int) + 1 := ⟨_, rfl⟩
                refine g_iinc (q := 2) (z := i2) (lv' := [(3, .int (iI i2)), (2, .int (iI z2)), (4, .int (iI l4)), (0, .ref (a 0)), (1, .int (iI (g : Int)))]) C d_M_isBettered_94 rfl e_i2.symm (by decide) rfl rfl ?_
                refine g_goto (tgt := 4) C d_M_isBettered_97 (by decide) ?_
                have hcs : (z2 = 1 ∧ (z = 1 ∨ ((S 8 i < S 8 g ∨ S 9 i < S 9 g) ∧ S 8 i ≤ S 8 g ∧ S 9 i ≤ S 9 g))) ∨ (z2 = 0 ∧ z = 0 ∧ ¬ ((S 8 i < S 8 g ∨ S 9 i < S 9 g) ∧ S 8 i ≤ S 8 g ∧ S 9 i ≤ S 9 g)) := by omega
                refine GG.lvs (lv' := [(3, .int (iI ((i + 1 : Nat) : Int))), (2, .int (iI z2)), (0, .ref (a 0)), (1, .int (iI (g : Int)))]) (by rw [show i2 = ((i + 1 : Nat) : Int) by omega]; simp [lk]) ?_
                refine ih (i + 1) z2 (by omega) (by omega) ?_
                rw [← hbt] at hcs
                exact bt_step hI hcs
              · refine g_aload_n C d_M_isBettered_73 rfl rfl ?_
                refine g_get C 0 9 i_M wY_0 rfl (by decide) k_M_29 rfl rfl d_M_isBettered_74 rfl ?_
                refine g_iload_n C d_M_isBettered_77 rfl rfl ?_
                refine g_iald C 7 0 wY_7 rfl (by omega) (by omega) (by decide) d_M_isBettered_78 rfl ?_
                refine g_aload_n C d_M_isBettered_79 rfl rfl ?_
                refine g_get C 0 9 i_M wY_0 rfl (by decide) k_M_29 rfl rfl d_M_isBettered_80 rfl ?_
                refine g_iload_n C d_M_isBettered_83 rfl rfl ?_
                refine g_iald C 7 0 wY_7 rfl (by omega) (by omega) (by decide) d_M_isBettered_84 rfl ?_
                refine g_icmp_gt (tgt := 92) C d_M_isBettered_85 (by decide) rfl (by omega) (by omega) (fun h85 => ?_) (fun h85 => ?_)
                · refine g_iconst (z := 0) C d_M_isBettered_92 rfl rfl ?_
                  refine g_nm (fun z2 e_z2 => ?_)
                  refine g_istore_n (lv' := [(2, .int (iI z2)), (4, .int (iI l4)), (3, .int (iI (i : Int))), (0, .ref (a 0)), (1, .int (iI (g : Int)))]) C d_M_isBettered_93 (by decide) rfl rfl ?_
                  obtain ⟨i2, e_i2⟩ : ∃ z : Int, z = (i : Int) + 1 := ⟨_, rfl⟩
                  refine g_iinc (q := 2) (z := i2) (lv' := [(3, .int (iI i2)), (2, .int (iI z2)), (4, .int (iI l4)), (0, .ref (a 0)), (1, .int (iI (g : Int)))]) C d_M_isBettered_94 rfl e_i2.symm (by decide) rfl rfl ?_
                  refine g_goto (tgt := 4) C d_M_isBettered_97 (by decide) ?_
                  have hcs : (z2 = 1 ∧ (z = 1 ∨ ((S 8 i < S 8 g ∨ S 9 i < S 9 g) ∧ S 8 i ≤ S 8 g ∧ S 9 i ≤ S 9 g))) ∨ (z2 = 0 ∧ z = 0 ∧ ¬ ((S 8 i < S 8 g ∨ S 9 i < S 9 g) ∧ S 8 i ≤ S 8 g ∧ S 9 i ≤ S 9 g)) := by omega
                  refine GG.lvs (lv' := [(3, .int (iI ((i + 1 : Nat) : Int))), (2, .int (iI z2)), (0, .ref (a 0)), (1, .int (iI (g : Int)))]) (by rw [show i2 = ((i + 1 : Nat) : Int) by omega]; simp [lk]) ?_
                  refine ih (i + 1) z2 (by omega) (by omega) ?_
                  rw [← hbt] at hcs
                  exact bt_step hI hcs
                · refine g_iconst (z := 1) C d_M_isBettered_88 rfl rfl ?_
                  refine g_goto (tgt := 93) C d_M_isBettered_89 (by decide) ?_
                  refine g_nm (fun z2 e_z2 => ?_)
                  refine g_istore_n (lv' := [(2, .int (iI z2)), (4, .int (iI l4)), (3, .int (iI (i : Int))), (0, .ref (a 0)), (1, .int (iI (g : Int)))]) C d_M_isBettered_93 (by decide) rfl rfl ?_
                  obtain ⟨i2, e_i2⟩ : ∃ z : Int, z = (i : Int) + 1 := ⟨_, rfl⟩
                  refine g_iinc (q := 2) (z := i2) (lv' := [(3, .int (iI i2)), (2, .int (iI z2)), (4, .int (iI l4)), (0, .ref (a 0)), (1, .int (iI (g : Int)))]) C d_M_isBettered_94 rfl e_i2.symm (by decide) rfl rfl ?_
                  refine g_goto (tgt := 4) C d_M_isBettered_97 (by decide) ?_
                  have hcs : (z2 = 1 ∧ (z = 1 ∨ ((S 8 i < S 8 g ∨ S 9 i < S 9 g) ∧ S 8 i ≤ S 8 g ∧ S 9 i ≤ S 9 g))) ∨ (z2 = 0 ∧ z = 0 ∧ ¬ ((S 8 i < S 8 g ∨ S 9 i < S 9 g) ∧ S 8 i ≤ S 8 g ∧ S 9 i ≤ S 9 g)) := by omega
                  refine GG.lvs (lv' := [(3, .int (iI ((i + 1 : Nat) : Int))), (2, .int (iI z2)), (0, .ref (a 0)), (1, .int (iI (g : Int)))]) (by rw [show i2 = ((i + 1 : Nat) : Int) by omega]; simp [lk]) ?_
                  refine ih (i + 1) z2 (by omega) (by omega) ?_
                  rw [← hbt] at hcs
                  exact bt_step hI hcs

set_option maxRecDepth 100000 in
set_option maxHeartbeats 4000000 in
theorem m_M_isBettered {l : Launch} {D : va_G} {a : Nat → Nat} {ki kz kl kq : ClassId} {S : Nat → Int → Int} {X : List (Int × Int)} {g : Nat} (hX : XP S X) (hg : g < X.length) : MY l D a ki kz kl kq y_M_isBettered b_M_isBettered 5 (some .boolean) rm_M_isBettered [.ref (a 0), .int (iI (g : Int))] S (pI fun r S' => S' = S ∧ ((r = 1 ∧ ∃ q, q ∈ X ∧ bt2 q (X.getD g (0, 0))) ∨ (r = 0 ∧ ∀ q, q ∈ X → ¬ bt2 q (X.getD g (0, 0))))) := by
  refine MM.go b_M_isBettered 5 (some .boolean) "NextPathsModel" [(0, .ref (a 0)), (1, .int (iI (g : Int)))] (by decide) rfl rfl (Nat.le_of_ble_eq_true rfl) ?_
  intro p e s m args below meth c C hr hk
  refine g_iconst (z := 0) C d_M_isBettered_0 rfl rfl ?_
  refine g_nm (fun z0 e_z0 => ?_)
  refine g_istore_n (lv' := [(2, .int (iI z0)), (0, .ref (a 0)), (1, .int (iI (g : Int)))]) C d_M_isBettered_1 (by decide) rfl rfl ?_
  refine g_iconst (z := 0) C d_M_isBettered_2 rfl rfl ?_
  refine g_nm (fun i0 e_i0 => ?_)
  refine g_istore_n (lv' := [(3, .int (iI i0)), (2, .int (iI z0)), (0, .ref (a 0)), (1, .int (iI (g : Int)))]) C d_M_isBettered_3 (by decide) rfl rfl ?_
  subst e_z0
  subst e_i0
  exact lo_M_better hX hg C hr hk _ 0 0 (by omega) (Nat.le_add_left _ _) (Or.inr ⟨rfl, fun q hq => by omega⟩)

/-- the pairs of B, the last one first, stand in the arrays -/
def PBY (S : Nat → Int → Int) (B : List (Int × Int)) : Prop := S 19 0 = B.length ∧ ∀ i : Nat, i < B.length → S 20 (i : Int) = (B.reverse.getD i (0, 0)).1 ∧ S 21 (i : Int) = (B.reverse.getD i (0, 0)).2
theorem PBY_nil {S : Nat → Int → Int} : PBY (us S 19 0 0) [] := ⟨rfl, fun i hi => by simp at hi⟩
theorem PBY_push {S : Nat → Int → Int} {B : List (Int × Int)} {x y : Int} (h : PBY S B) : PBY (us (us (us S 20 B.length x) 21 B.length y) 19 0 ((B.length : Int) + 1)) ((x, y) :: B) := by
  refine ⟨by rw [us_s, up_s]; simp, fun i hi => ?_⟩
  rw [us_n (by decide), us_n (by decide), us_s, us_n (by decide), us_s, us_n (by decide)]
  by_cases e : i = B.length
  · subst e; rw [up_s, up_s, rev_last]; exact ⟨rfl, rfl⟩
  · have hi2 : i < B.length := by simp at hi; omega
    rw [up_n (by omega), up_n (by omega), rev_old hi2]
    exact h.2 i hi2
theorem PBY_pop {S : Nat → Int → Int} {q : Int × Int} {B : List (Int × Int)} (h : PBY S (q :: B)) : PBY (us S 19 0 (B.length : Int)) B := by
  refine ⟨by rw [us_s, up_s], fun i hi => ?_⟩
  rw [us_n (by decide), us_n (by decide), ← rev_old (q := q) hi]
  exact h.2 i (by simp; omega)
theorem PBY_top {S : Nat → Int → Int} {q : Int × Int} {B : List (Int × Int)} (h : PBY S (q :: B)) : S 19 0 = (B.length : Int) + 1 ∧ S 20 (B.length : Int) = q.1 ∧ S 21 (B.length : Int) = q.2 := by
  have h1 := h.2 B.length (by simp)
  rw [rev_last] at h1
  exact ⟨by rw [h.1]; simp, h1.1, h1.2⟩
theorem PBY_pushc {S : Nat → Int → Int} {t : Int × Int} {B : List (Int × Int)} {x y : Int} (h : PBY S (t :: B)) : PBY (us (us (us S 20 ((B.length : Int) + 1) x) 21 ((B.length : Int) + 1) y) 19 0 ((B.length : Int) + 1 + 1)) ((x, y) :: t :: B) := by
  have h9 := PBY_push (x := x) (y := y) h
  rw [show (((t :: B).length : Nat) : Int) = (B.length : Int) + 1 by simp] at h9
  exact h9

/-- on the way: the best pairs among the first i -/
def gnt (X : List (Int × Int)) (i : Nat) (B : List (Int × Int)) : Prop := fal B ∧ ∀ p, p ∈ B ↔ bst X p ∧ p ∈ X.take i
theorem gnt_0 {X : List (Int × Int)} : gnt X 0 [] := ⟨List.Pairwise.nil, fun p => ⟨(fun h => by cases h), fun h => by simpa using h.2⟩⟩
theorem gnt_end {X B : List (Int × Int)} (h : gnt X X.length B) : fnt X B := ⟨h.1, fun p => by
  rw [h.2 p, List.take_length]
  exact ⟨fun q => q.1, fun q => ⟨q, q.1⟩⟩⟩
theorem tkp {X : List (Int × Int)} {i : Nat} (h : i < X.length) : X.take (i + 1) = X.take i ++ [X.getD i (0, 0)] := by
  rw [List.take_add_one]
  simp [h]
/-- skipped: it is bettered, or stands there already -/
theorem gnt_skip {X B : List (Int × Int)} {i : Nat} (h : gnt X i B) (hi : i < X.length) (hs : (∃ q, q ∈ X ∧ bt2 q (X.getD i (0, 0))) ∨ X.getD i (0, 0) ∈ B) : gnt X (i + 1) B := by
  refine ⟨h.1, fun p => ?_⟩
  rw [h.2 p, tkp hi, List.mem_append, List.mem_singleton]
  constructor
  · exact fun q => ⟨q.1, Or.inl q.2⟩
  · rintro ⟨q1, q2 | q2⟩
    · exact ⟨q1, q2⟩
    · subst q2
      rcases hs with ⟨q, c1, c2⟩ | hs
      · exact absurd c2 (q1.2 q c1)
      · exact (h.2 _).mp hs
theorem gnt_push {X B : List (Int × Int)} {i : Nat} (h : gnt X i B) (hi : i < X.length) (hw : X.Pairwise (fun p q => p.1 ≤ q.1)) (hn : ∀ q, q ∈ X → ¬ bt2 q (X.getD i (0, 0))) (ht : ∀ t B', B = t :: B' → t.1 ≠ (X.getD i (0, 0)).1) : gnt X (i + 1) (X.getD i (0, 0) :: B) := by
  have hb : bst X (X.getD i (0, 0)) := ⟨by simp [hi], hn⟩
  refine ⟨List.pairwise_cons.mpr ⟨fun q hq => ?_, h.1⟩, fun p => ?_⟩
  · have hle : ∀ q, q ∈ B → q.1 ≤ (X.getD i (0, 0)).1 := fun q hq => by
      obtain ⟨j, hj, e⟩ := List.mem_iff_getElem.mp ((h.2 q).mp hq).2
      have hj2 : j < i := by rw [List.length_take] at hj; omega
      have := List.pairwise_iff_getElem.mp hw j i (by omega) hi hj2
      rw [List.getElem_take] at e
      rw [← e, show X.getD i (0, 0) = X[i] by simp [hi]]
      exact this
    cases B with
    | nil => cases hq
    | cons t B' =>
      have h1 := hle t List.mem_cons_self
      have h2 := ht t B' rfl
      rcases List.mem_cons.mp hq with rfl | hq
      · omega
      · have := (List.pairwise_cons.mp h.1).1 q hq
        omega
  · rw [List.mem_cons, h.2 p, tkp hi, List.mem_append, List.mem_singleton]
    constructor
    · rintro (rfl | q)
      · exact ⟨hb, Or.inr rfl⟩
      · exact ⟨q.1, Or.inl q.2⟩
    · rintro ⟨q1, q2 | q2⟩
      · exact Or.inr ⟨q1, q2⟩
      · exact Or.inl q2
/-- of one weight, another second: bettered -/
theorem gnt_same {X B' : List (Int × Int)} {t : Int × Int} {i : Nat} (h : gnt X i (t :: B')) (hi : i < X.length) (h1 : t.1 = (X.getD i (0, 0)).1) (h2 : t.2 ≠ (X.getD i (0, 0)).2) : bt2 t (X.getD i (0, 0)) ∧ t ∈ X := by
  have hb := ((h.2 t).mp List.mem_cons_self).1
  refine ⟨?_, hb.1⟩
  have := hb.2 (X.getD i (0, 0)) (by simp [hi])
  unfold bt2 at *
  omega
theorem gnt_len {X B : List (Int × Int)} {i : Nat} (h : gnt X i B) (hi : i ≤ X.length) : B.length ≤ i := by
  have := (fal_nodup h.1).length_le_of_subset (l₂ := X.take i) (fun p hp => ((h.2 p).mp hp).2)
  rw [List.length_take] at this
  omega
theorem XP_FD {S S' : Nat → Int → Int} {u v : Int} (hG : GJ S) (hu : 0 ≤ u ∧ u < S 0 0) (hv : 0 ≤ v ∧ v < S 0 0) (h : FD S S' u v) : XP S' (prsS S u v) ∧ (prsS S u v).Pairwise (fun p q => p.1 ≤ q.1) := by
  have hn := hG.1
  have hl := sp_len hG.2.2 (a := u) (b := v) (by omega) (by omega)
  refine ⟨⟨by rw [h.2.1]; simp, by simpa using hl, fun i hi => ?_⟩, ?_⟩
  · have hi2 : i < (spS S u v).length := by simpa using hi
    obtain ⟨g1, g2, -⟩ := FD_at h hi2
    have hok := (sp_ok5 hG.2.2 (a := u) (b := v) (by omega) (P := (spS S u v).getD i []) (by simp [hi2])).1
    have b1 := wp_bd (W := S 4) (fun k => ⟨(hG.2.2.2.2.1 k).2.2.2.2.1, (hG.2.2.2.2.1 k).2.2.2.2.2.1⟩) ((spS S u v).getD i [])
    have b2 := wp_bd (W := S 5) (fun k => ⟨(hG.2.2.2.2.1 k).2.2.2.2.2.2.1, (hG.2.2.2.2.1 k).2.2.2.2.2.2.2.1⟩) ((spS S u v).getD i [])
    rw [g1, g2]
    refine ⟨?_, by omega, by omega⟩
    have e : (prsS S u v).getD i (0, 0) = prS S ((spS S u v).getD i []) := by simp [hi2]
    rw [e]
    exact ⟨rfl, rfl⟩
  · exact List.pairwise_map.mpr (sp_w hG.2.2 (a := u) (b := v) (by omega))

theorem XP_us3 {S : Nat → Int → Int} {X : List (Int × Int)} {z1 z2 z3 v1 v2 v3 : Int} (h : XP S X) : XP (us (us (us S 20 z1 v1) 21 z2 v2) 19 z3 v3) X := by
  unfold XP at *
  rw [us_n (by decide), us_n (by decide), us_n (by decide), us_n (by decide), us_n (by decide), us_n (by decide), us_n (by decide), us_n (by decide), us_n (by decide)]
  exact h

set_option maxRecDepth 100000 in
set_option maxHeartbeats 4000000 in
theorem lo_M_pairs {l : Launch} {D : va_G} {a : Nat → Nat} {ki kz kl kq : ClassId} {p : Program} {e : Env} {s : State} {m : MethodId} {args : Array Value} {below : List Frame} {meth : Method} {c : Code} {S0 : Nat → Int → Int} {u v : Int} (hG : GJ S0) (h2 : twoS S0 u v) (hw : (prsS S0 u v).Pairwise (fun p q => p.1 ≤ q.1)) (C : CX p s m args c b_M_pairs 5 "NextPathsModel" TT D cls (tyz ki kz kl kq)) (hr : meth.sig.returnType = (some .int)) (hk : meth.locks = false) : ∀ (j i : Nat) (S : Nat → Int → Int) (B : List (Int × Int)), i ≤ (prsS S0 u v).length → (prsS S0 u v).length ≤ i + j → eqx [7, 8, 9, 10, 11, 12, 13, 19, 20, 21, 22, 23] S0 S → XP S (prsS S0 u v) → gnt (prsS S0 u v) i B → PBY S B → (∀ q, q ∈ B → r32 q.1 ∧ r32 q.2) → GG p l e rm_M_pairs s m args below meth c D cls (adr (wY a ki kz kl kq S0)) 5 0 0 (MQ below (QcW D cls (wY a ki kz kl kq) S0 (pI fun r S' => (¬ twoS S0 u v ∧ r = -2 ∧ S' = S0) ∨ (twoS S0 u v ∧ eqx [7, 8, 9, 10, 11, 12, 13, 19, 20, 21, 22, 23] S0 S' ∧ ∃ B, fnt (prsS S0 u v) B ∧ PBY S' B ∧ B.length ≤ 1458 ∧ r = B.length))) args s 0 0 (adr (wY a ki kz kl kq S0))) (wY a ki kz kl kq) S [(3, .int (iI (i : Int))), (0, .ref (a 0)), (1, .int (iI u)), (2, .int (iI v))] 25 [] := by
  intro j
  induction j with
  | zero =>
    intro i S B hi hk0 hE hX hg hB hq9
    have hXl := hX.2.1
    have hbl := gnt_len hg hi
    cases B with
    | nil =>
      refine g_iload_n C d_M_pairs_25 rfl rfl ?_
      refine g_aload_n C d_M_pairs_26 rfl rfl ?_
      refine g_get C 0 7 i_M wY_0 rfl (by decide) k_M_98 rfl rfl d_M_pairs_27 rfl ?_
      refine g_v (z' := ((prsS S0 u v).length : Int)) hX.1 ?_
      refine g_icmp_ge (tgt := 159) C d_M_pairs_30 (by decide) rfl (by omega) (by omega) (fun h30 => ?_) (fun h30 => ?_)
      · refine g_aload_n C d_M_pairs_159 rfl rfl ?_
        refine g_get C 0 19 i_M wY_0 rfl (by decide) k_M_80 rfl rfl d_M_pairs_160 rfl ?_
        refine g_v (z' := 0) hB.1 ?_
        refine g_iret C hr hk d_M_pairs_163 ⟨_, rfl, ?_⟩
        have hil : i = (prsS S0 u v).length := by omega
        subst hil
        exact Or.inr ⟨h2, hE, [], gnt_end hg, hB, (by first | (simp only [List.length_cons]; omega) | (simp; done)), rfl⟩
      · exact absurd h30 (by omega)
    | cons t B' =>
      have ht9 := hq9 t List.mem_cons_self
      simp only [List.length_cons] at hbl
      refine g_iload_n C d_M_pairs_25 rfl rfl ?_
      refine g_aload_n C d_M_pairs_26 rfl rfl ?_
      refine g_get C 0 7 i_M wY_0 rfl (by decide) k_M_98 rfl rfl d_M_pairs_27 rfl ?_
      refine g_v (z' := ((prsS S0 u v).length : Int)) hX.1 ?_
      refine g_icmp_ge (tgt := 159) C d_M_pairs_30 (by decide) rfl (by omega) (by omega) (fun h30 => ?_) (fun h30 => ?_)
      · refine g_aload_n C d_M_pairs_159 rfl rfl ?_
        refine g_get C 0 19 i_M wY_0 rfl (by decide) k_M_80 rfl rfl d_M_pairs_160 rfl ?_
        refine g_v (z' := ((B'.length : Int) + 1)) (PBY_top hB).1 ?_
        refine g_iret C hr hk d_M_pairs_163 ⟨_, rfl, ?_⟩
        have hil : i = (prsS S0 u v).length := by omega
        subst hil
        exact Or.inr ⟨h2, hE, (t :: B'), gnt_end hg, hB, (by first | (simp only [List.length_cons]; omega) | (simp; done)), rfl⟩
      · exact absurd h30 (by omega)
  | succ j ih =>
    intro i S B hi hk0 hE hX hg hB hq9
    have hXl := hX.2.1
    have hbl := gnt_len hg hi
    cases B with
    | nil =>
      refine g_iload_n C d_M_pairs_25 rfl rfl ?_
      refine g_aload_n C d_M_pairs_26 rfl rfl ?_
      refine g_get C 0 7 i_M wY_0 rfl (by decide) k_M_98 rfl rfl d_M_pairs_27 rfl ?_
      refine g_v (z' := ((prsS S0 u v).length : Int)) hX.1 ?_
      refine g_icmp_ge (tgt := 159) C d_M_pairs_30 (by decide) rfl (by omega) (by omega) (fun h30 => ?_) (fun h30 => ?_)
      · refine g_aload_n C d_M_pairs_159 rfl rfl ?_
        refine g_get C 0 19 i_M wY_0 rfl (by decide) k_M_80 rfl rfl d_M_pairs_160 rfl ?_
        refine g_v (z' := 0) hB.1 ?_
        refine g_iret C hr hk d_M_pairs_163 ⟨_, rfl, ?_⟩
        have hil : i = (prsS S0 u v).length := by omega
        subst hil
        exact Or.inr ⟨h2, hE, [], gnt_end hg, hB, (by first | (simp only [List.length_cons]; omega) | (simp; done)), rfl⟩
      · have hil : i < (prsS S0 u v).length := by omega
        obtain ⟨hxi, bx1, bx2⟩ := hX.2.2 i hil
        refine g_aload_n C d_M_pairs_33 rfl rfl ?_
        refine g_get C 0 19 i_M wY_0 rfl (by decide) k_M_80 rfl rfl d_M_pairs_34 rfl ?_
        refine g_v (z' := 0) hB.1 ?_
        refine g_if_eq (tgt := 60) C d_M_pairs_37 (by decide) rfl (by omega) (fun h37 => ?_) (fun h37 => ?_)
        · refine g_iconst (z := 1) C d_M_pairs_60 rfl rfl ?_
          refine g_goto (tgt := 65) C d_M_pairs_61 (by decide) ?_
          refine g_nm (fun n4 e_n4 => ?_)
          refine g_istore (lv' := [(4, .int (iI n4)), (3, .int (iI (i : Int))), (0, .ref (a 0)), (1, .int (iI u)), (2, .int (iI v))]) C d_M_pairs_65 (by decide) rfl rfl ?_
          refine g_iload C d_M_pairs_67 rfl rfl ?_
          refine g_if_eq (tgt := 80) C d_M_pairs_69 (by decide) rfl (by omega) (fun h69 => ?_) (fun h69 => ?_)
          · refine g_iload C d_M_pairs_80 rfl rfl ?_
            refine g_if_ne (tgt := 153) C d_M_pairs_82 (by decide) rfl (by omega) (fun h82 => ?_) (fun h82 => ?_)
            · obtain ⟨i2, e_i2⟩ : ∃ z : Int, z = (i : Int) + 1 := ⟨_, rfl⟩
              refine g_iinc (q := 1) (z := i2) (lv' := [(3, .int (iI i2)), (4, .int (iI n4)), (0, .ref (a 0)), (1, .int (iI u)), (2, .int (iI v))]) C d_M_pairs_153 rfl e_i2.symm (by decide) rfl rfl ?_
              refine g_goto (tgt := 25) C d_M_pairs_156 (by decide) ?_
              refine GG.lvs (lv' := [(3, .int (iI ((i + 1 : Nat) : Int))), (0, .ref (a 0)), (1, .int (iI u)), (2, .int (iI v))]) (by rw [show i2 = ((i + 1 : Nat) : Int) by omega]; simp [lk]) ?_
              first
                | (exfalso; omega)
                | (refine ih (i + 1) _ _ (by omega) (by omega) (eqx_us (eqx_us (eqx_us hE (by decide)) (by decide)) (by decide)) (XP_us3 hX) (gnt_push hg hil hw (by rcases hp7 with q | q; exact absurd q.1 (by omega); exact q.2) ?_) ?_ ?_
                   · intro t2 B2 e2
                     first
                       | (cases e2; done)
                       | (injection e2 with e3 e4
                          subst e3
                          first | exact h57 | exact absurd (gnt_same hg hil h57 h102) (fun q => by rcases hp7 with w | w; exact absurd w.1 (by omega); exact w.2 _ q.2 q.1) | omega)
                   · exact PBY_push hB
                   · intro q hq
                     rcases List.mem_cons.mp hq with rfl | hq
                     · exact ⟨by rw [← hxi.1]; exact bx1, by rw [← hxi.2]; exact bx2⟩
                     · exact hq9 q hq)
                | (refine ih (i + 1) _ _ (by omega) (by omega) hE hX (gnt_skip hg hil ?_) hB hq9
                   first
                     | exact Or.inl (by rcases hp7 with q | q; exact q.2; exact absurd q.1 (by omega))
                     | exact Or.inr (by rw [show (prsS S0 u v).getD i (0, 0) = t from Prod.ext h57.symm h102.symm]; exact List.mem_cons_self))
            · exact absurd h82 (by omega)
          · refine g_aload_n C d_M_pairs_72 rfl rfl ?_
            refine g_iload_n C d_M_pairs_73 rfl rfl ?_
            refine g_runI (wY_fix a ki kz kl kq) rfl (rn_V C (m_M_isBettered hX (g := i) hil) 0 1 wY_0 rfl rfl kc_M_isBettered k_M_143 ki_M_isBettered kx_M_isBettered kn_M hy_M_isBettered ⟨rfl, rfl⟩ ⟨by decide, by decide⟩ ⟨Nat.le_refl _, Nat.le_refl _⟩ rfl rfl (Nat.le_of_ble_eq_true rfl) d_M_pairs_74) (fun r7 S7 hp7 => ?_)
            obtain ⟨hS7, hp7⟩ := hp7
            refine GG.at hS7 ?_
            refine g_if_eq (tgt := 113) C d_M_pairs_77 (by decide) rfl (by omega) (fun h77 => ?_) (fun h77 => ?_)
            · refine g_aload_n C d_M_pairs_113 rfl rfl ?_
              refine g_get C 0 20 i_M wY_0 rfl (by decide) k_M_45 rfl rfl d_M_pairs_114 rfl ?_
              refine g_aload_n C d_M_pairs_117 rfl rfl ?_
              refine g_get C 0 19 i_M wY_0 rfl (by decide) k_M_80 rfl rfl d_M_pairs_118 rfl ?_
              refine g_v (z' := 0) hB.1 ?_
              refine g_aload_n C d_M_pairs_121 rfl rfl ?_
              refine g_get C 0 8 i_M wY_0 rfl (by decide) k_M_26 rfl rfl d_M_pairs_122 rfl ?_
              refine g_iload_n C d_M_pairs_125 rfl rfl ?_
              refine g_iald C 6 0 wY_6 rfl (by omega) (by omega) (by decide) d_M_pairs_126 rfl ?_
              refine g_v (z' := ((prsS S0 u v).getD i (0, 0)).1) hxi.1 ?_
              refine g_iast C 12 0 wY_12 rfl (by omega) (by omega) (by decide) wY_s12 d_M_pairs_127 rfl ?_
              refine g_aload_n C d_M_pairs_128 rfl rfl ?_
              refine g_get C 0 21 i_M wY_0 rfl (by decide) k_M_48 rfl rfl d_M_pairs_129 rfl ?_
              refine g_aload_n C d_M_pairs_132 rfl rfl ?_
              refine g_get C 0 19 i_M wY_0 rfl (by decide) k_M_80 rfl rfl d_M_pairs_133 rfl ?_
              refine g_v (z' := 0) (by rw [us_n (by decide)]; exact hB.1) ?_
              refine g_aload_n C d_M_pairs_136 rfl rfl ?_
              refine g_get C 0 9 i_M wY_0 rfl (by decide) k_M_29 rfl rfl d_M_pairs_137 rfl ?_
              refine g_iload_n C d_M_pairs_140 rfl rfl ?_
              refine g_iald C 7 0 wY_7 rfl (by omega) (by omega) (by decide) d_M_pairs_141 rfl ?_
              refine g_v (z' := ((prsS S0 u v).getD i (0, 0)).2) (by rw [us_n (by decide)]; exact hxi.2) ?_
              refine g_iast C 13 0 wY_13 rfl (by omega) (by omega) (by decide) wY_s13 d_M_pairs_142 rfl ?_
              refine g_aload_n C d_M_pairs_143 rfl rfl ?_
              refine g_dup C d_M_pairs_144 rfl rfl ?_
              refine g_get C 0 19 i_M wY_0 rfl (by decide) k_M_80 rfl rfl d_M_pairs_145 rfl ?_
              refine g_v (z' := 0) (by rw [us_n (by decide), us_n (by decide)]; exact hB.1) ?_
              refine g_iconst (z := 1) C d_M_pairs_148 rfl rfl ?_
              refine g_iadd C d_M_pairs_149 rfl rfl ?_
              refine g_put (ty := .int) C 0 19 ty_M i_M ty_M_ok n_M wY_0 rfl (by decide) k_M_80 rfl rfl (by decide +kernel) rfl rfl (Nat.le_of_ble_eq_true rfl) wY_p0_19 d_M_pairs_150 rfl ?_
              obtain ⟨i2, e_i2⟩ : ∃ z : Int, z = (i : Int) + 1 := ⟨_, rfl⟩
              refine g_iinc (q := 1) (z := i2) (lv' := [(3, .int (iI i2)), (4, .int (iI n4)), (0, .ref (a 0)), (1, .int (iI u)), (2, .int (iI v))]) C d_M_pairs_153 rfl e_i2.symm (by decide) rfl rfl ?_
              refine g_goto (tgt := 25) C d_M_pairs_156 (by decide) ?_
              refine GG.lvs (lv' := [(3, .int (iI ((i + 1 : Nat) : Int))), (0, .ref (a 0)), (1, .int (iI u)), (2, .int (iI v))]) (by rw [show i2 = ((i + 1 : Nat) : Int) by omega]; simp [lk]) ?_
              first
                | (exfalso; omega)
                | (refine ih (i + 1) _ _ (by omega) (by omega) (eqx_us (eqx_us (eqx_us hE (by decide)) (by decide)) (by decide)) (XP_us3 hX) (gnt_push hg hil hw (by rcases hp7 with q | q; exact absurd q.1 (by omega); exact q.2) ?_) ?_ ?_
                   · intro t2 B2 e2
                     first
                       | (cases e2; done)
                       | (injection e2 with e3 e4
                          subst e3
                          first | exact h57 | exact absurd (gnt_same hg hil h57 h102) (fun q => by rcases hp7 with w | w; exact absurd w.1 (by omega); exact w.2 _ q.2 q.1) | omega)
                   · exact PBY_push hB
                   · intro q hq
                     rcases List.mem_cons.mp hq with rfl | hq
                     · exact ⟨by rw [← hxi.1]; exact bx1, by rw [← hxi.2]; exact bx2⟩
                     · exact hq9 q hq)
                | (refine ih (i + 1) _ _ (by omega) (by omega) hE hX (gnt_skip hg hil ?_) hB hq9
                   first
                     | exact Or.inl (by rcases hp7 with q | q; exact q.2; exact absurd q.1 (by omega))
                     | exact Or.inr (by rw [show (prsS S0 u v).getD i (0, 0) = t from Prod.ext h57.symm h102.symm]; exact List.mem_cons_self))
            · refine g_iload C d_M_pairs_80 rfl rfl ?_
              refine g_if_ne (tgt := 153) C d_M_pairs_82 (by decide) rfl (by omega) (fun h82 => ?_) (fun h82 => ?_)
              · obtain ⟨i2, e_i2⟩ : ∃ z : Int, z = (i : Int) + 1 := ⟨_, rfl⟩
                refine g_iinc (q := 1) (z := i2) (lv' := [(3, .int (iI i2)), (4, .int (iI n4)), (0, .ref (a 0)), (1, .int (iI u)), (2, .int (iI v))]) C d_M_pairs_153 rfl e_i2.symm (by decide) rfl rfl ?_
                refine g_goto (tgt := 25) C d_M_pairs_156 (by decide) ?_
                refine GG.lvs (lv' := [(3, .int (iI ((i + 1 : Nat) : Int))), (0, .ref (a 0)), (1, .int (iI u)), (2, .int (iI v))]) (by rw [show i2 = ((i + 1 : Nat) : Int) by omega]; simp [lk]) ?_
                first
                  | (exfalso; omega)
                  | (refine ih (i + 1) _ _ (by omega) (by omega) (eqx_us (eqx_us (eqx_us hE (by decide)) (by decide)) (by decide)) (XP_us3 hX) (gnt_push hg hil hw (by rcases hp7 with q | q; exact absurd q.1 (by omega); exact q.2) ?_) ?_ ?_
                     · intro t2 B2 e2
                       first
                         | (cases e2; done)
                         | (injection e2 with e3 e4
                            subst e3
                            first | exact h57 | exact absurd (gnt_same hg hil h57 h102) (fun q => by rcases hp7 with w | w; exact absurd w.1 (by omega); exact w.2 _ q.2 q.1) | omega)
                     · exact PBY_push hB
                     · intro q hq
                       rcases List.mem_cons.mp hq with rfl | hq
                       · exact ⟨by rw [← hxi.1]; exact bx1, by rw [← hxi.2]; exact bx2⟩
                       · exact hq9 q hq)
                  | (refine ih (i + 1) _ _ (by omega) (by omega) hE hX (gnt_skip hg hil ?_) hB hq9
                     first
                       | exact Or.inl (by rcases hp7 with q | q; exact q.2; exact absurd q.1 (by omega))
                       | exact Or.inr (by rw [show (prsS S0 u v).getD i (0, 0) = t from Prod.ext h57.symm h102.symm]; exact List.mem_cons_self))
              · exact absurd h82 (by omega)
        · exact absurd rfl h37
    | cons t B' =>
      have ht9 := hq9 t List.mem_cons_self
      simp only [List.length_cons] at hbl
      refine g_iload_n C d_M_pairs_25 rfl rfl ?_
      refine g_aload_n C d_M_pairs_26 rfl rfl ?_
      refine g_get C 0 7 i_M wY_0 rfl (by decide) k_M_98 rfl rfl d_M_pairs_27 rfl ?_
      refine g_v (z' := ((prsS S0 u v).length : Int)) hX.1 ?_
      refine g_icmp_ge (tgt := 159) C d_M_pairs_30 (by decide) rfl (by omega) (by omega) (fun h30 => ?_) (fun h30 => ?_)
      · refine g_aload_n C d_M_pairs_159 rfl rfl ?_
        refine g_get C 0 19 i_M wY_0 rfl (by decide) k_M_80 rfl rfl d_M_pairs_160 rfl ?_
        refine g_v (z' := ((B'.length : Int) + 1)) (PBY_top hB).1 ?_
        refine g_iret C hr hk d_M_pairs_163 ⟨_, rfl, ?_⟩
        have hil : i = (prsS S0 u v).length := by omega
        subst hil
        exact Or.inr ⟨h2, hE, (t :: B'), gnt_end hg, hB, (by first | (simp only [List.length_cons]; omega) | (simp; done)), rfl⟩
      · have hil : i < (prsS S0 u v).length := by omega
        obtain ⟨hxi, bx1, bx2⟩ := hX.2.2 i hil
        refine g_aload_n C d_M_pairs_33 rfl rfl ?_
        refine g_get C 0 19 i_M wY_0 rfl (by decide) k_M_80 rfl rfl d_M_pairs_34 rfl ?_
        refine g_v (z' := ((B'.length : Int) + 1)) (PBY_top hB).1 ?_
        refine g_if_eq (tgt := 60) C d_M_pairs_37 (by decide) rfl (by omega) (fun h37 => ?_) (fun h37 => ?_)
        · exact absurd h37 (by omega)
        · refine g_aload_n C d_M_pairs_40 rfl rfl ?_
          refine g_get C 0 20 i_M wY_0 rfl (by decide) k_M_45 rfl rfl d_M_pairs_41 rfl ?_
          refine g_aload_n C d_M_pairs_44 rfl rfl ?_
          refine g_get C 0 19 i_M wY_0 rfl (by decide) k_M_80 rfl rfl d_M_pairs_45 rfl ?_
          refine g_v (z' := ((B'.length : Int) + 1)) (PBY_top hB).1 ?_
          refine g_iconst (z := 1) C d_M_pairs_48 rfl rfl ?_
          refine g_isub (z := (B'.length : Int)) C d_M_pairs_49 (by omega) rfl ?_
          refine g_iald C 12 0 wY_12 rfl (by omega) (by omega) (by decide) d_M_pairs_50 rfl ?_
          refine g_v (z' := t.1) (PBY_top hB).2.1 ?_
          refine g_aload_n C d_M_pairs_51 rfl rfl ?_
          refine g_get C 0 8 i_M wY_0 rfl (by decide) k_M_26 rfl rfl d_M_pairs_52 rfl ?_
          refine g_iload_n C d_M_pairs_55 rfl rfl ?_
          refine g_iald C 6 0 wY_6 rfl (by omega) (by omega) (by decide) d_M_pairs_56 rfl ?_
          refine g_v (z' := ((prsS S0 u v).getD i (0, 0)).1) hxi.1 ?_
          refine g_icmp_eq (tgt := 64) C d_M_pairs_57 (by decide) rfl (by omega) (by rw [← hxi.1]; omega) (fun h57 => ?_) (fun h57 => ?_)
          · refine g_iconst (z := 0) C d_M_pairs_64 rfl rfl ?_
            refine g_nm (fun n4 e_n4 => ?_)
            refine g_istore (lv' := [(4, .int (iI n4)), (3, .int (iI (i : Int))), (0, .ref (a 0)), (1, .int (iI u)), (2, .int (iI v))]) C d_M_pairs_65 (by decide) rfl rfl ?_
            refine g_iload C d_M_pairs_67 rfl rfl ?_
            refine g_if_eq (tgt := 80) C d_M_pairs_69 (by decide) rfl (by omega) (fun h69 => ?_) (fun h69 => ?_)
            · refine g_iload C d_M_pairs_80 rfl rfl ?_
              refine g_if_ne (tgt := 153) C d_M_pairs_82 (by decide) rfl (by omega) (fun h82 => ?_) (fun h82 => ?_)
              · obtain ⟨i2, e_i2⟩ : ∃ z : Int, z = (i : Int) + 1 := ⟨_, rfl⟩
                refine g_iinc (q := 1) (z := i2) (lv' := [(3, .int (iI i2)), (4, .int (iI n4)), (0, .ref (a 0)), (1, .int (iI u)), (2, .int (iI v))]) C d_M_pairs_153 rfl e_i2.symm (by decide) rfl rfl ?_
                refine g_goto (tgt := 25) C d_M_pairs_156 (by decide) ?_
                refine GG.lvs (lv' := [(3, .int (iI ((i + 1 : Nat) : Int))), (0, .ref (a 0)), (1, .int (iI u)), (2, .int (iI v))]) (by rw [show i2 = ((i + 1 : Nat) : Int) by omega]; simp [lk]) ?_
                first
                  | (exfalso; omega)
                  | (refine ih (i + 1) _ _ (by omega) (by omega) (eqx_us (eqx_us (eqx_us hE (by decide)) (by decide)) (by decide)) (XP_us3 hX) (gnt_push hg hil hw (by rcases hp7 with q | q; exact absurd q.1 (by omega); exact q.2) ?_) ?_ ?_
                     · intro t2 B2 e2
                       first
                         | (cases e2; done)
                         | (injection e2 with e3 e4
                            subst e3
                            first | exact h57 | exact absurd (gnt_same hg hil h57 h102) (fun q => by rcases hp7 with w | w; exact absurd w.1 (by omega); exact w.2 _ q.2 q.1) | omega)
                     · exact PBY_pushc hB
                     · intro q hq
                       rcases List.mem_cons.mp hq with rfl | hq
                       · exact ⟨by rw [← hxi.1]; exact bx1, by rw [← hxi.2]; exact bx2⟩
                       · exact hq9 q hq)
                  | (refine ih (i + 1) _ _ (by omega) (by omega) hE hX (gnt_skip hg hil ?_) hB hq9
                     first
                       | exact Or.inl (by rcases hp7 with q | q; exact q.2; exact absurd q.1 (by omega))
                       | exact Or.inr (by rw [show (prsS S0 u v).getD i (0, 0) = t from Prod.ext h57.symm h102.symm]; exact List.mem_cons_self))
              · refine g_aload_n C d_M_pairs_85 rfl rfl ?_
                refine g_get C 0 21 i_M wY_0 rfl (by decide) k_M_48 rfl rfl d_M_pairs_86 rfl ?_
                refine g_aload_n C d_M_pairs_89 rfl rfl ?_
                refine g_get C 0 19 i_M wY_0 rfl (by decide) k_M_80 rfl rfl d_M_pairs_90 rfl ?_
                refine g_v (z' := ((B'.length : Int) + 1)) (PBY_top hB).1 ?_
                refine g_iconst (z := 1) C d_M_pairs_93 rfl rfl ?_
                refine g_isub (z := (B'.length : Int)) C d_M_pairs_94 (by omega) rfl ?_
                refine g_iald C 13 0 wY_13 rfl (by omega) (by omega) (by decide) d_M_pairs_95 rfl ?_
                refine g_v (z' := t.2) (PBY_top hB).2.2 ?_
                refine g_aload_n C d_M_pairs_96 rfl rfl ?_
                refine g_get C 0 9 i_M wY_0 rfl (by decide) k_M_29 rfl rfl d_M_pairs_97 rfl ?_
                refine g_iload_n C d_M_pairs_100 rfl rfl ?_
                refine g_iald C 7 0 wY_7 rfl (by omega) (by omega) (by decide) d_M_pairs_101 rfl ?_
                refine g_v (z' := ((prsS S0 u v).getD i (0, 0)).2) hxi.2 ?_
                refine g_icmp_eq (tgt := 153) C d_M_pairs_102 (by decide) rfl (by omega) (by rw [← hxi.2]; omega) (fun h102 => ?_) (fun h102 => ?_)
                · obtain ⟨i2, e_i2⟩ : ∃ z : Int, z = (i : Int) + 1 := ⟨_, rfl⟩
                  refine g_iinc (q := 1) (z := i2) (lv' := [(3, .int (iI i2)), (4, .int (iI n4)), (0, .ref (a 0)), (1, .int (iI u)), (2, .int (iI v))]) C d_M_pairs_153 rfl e_i2.symm (by decide) rfl rfl ?_
                  refine g_goto (tgt := 25) C d_M_pairs_156 (by decide) ?_
                  refine GG.lvs (lv' := [(3, .int (iI ((i + 1 : Nat) : Int))), (0, .ref (a 0)), (1, .int (iI u)), (2, .int (iI v))]) (by rw [show i2 = ((i + 1 : Nat) : Int) by omega]; simp [lk]) ?_
                  first
                    | (exfalso; omega)
                    | (refine ih (i + 1) _ _ (by omega) (by omega) (eqx_us (eqx_us (eqx_us hE (by decide)) (by decide)) (by decide)) (XP_us3 hX) (gnt_push hg hil hw (by rcases hp7 with q | q; exact absurd q.1 (by omega); exact q.2) ?_) ?_ ?_
                       · intro t2 B2 e2
                         first
                           | (cases e2; done)
                           | (injection e2 with e3 e4
                              subst e3
                              first | exact h57 | exact absurd (gnt_same hg hil h57 h102) (fun q => by rcases hp7 with w | w; exact absurd w.1 (by omega); exact w.2 _ q.2 q.1) | omega)
                       · exact PBY_pushc hB
                       · intro q hq
                         rcases List.mem_cons.mp hq with rfl | hq
                         · exact ⟨by rw [← hxi.1]; exact bx1, by rw [← hxi.2]; exact bx2⟩
                         · exact hq9 q hq)
                    | (refine ih (i + 1) _ _ (by omega) (by omega) hE hX (gnt_skip hg hil ?_) hB hq9
                       first
                         | exact Or.inl (by rcases hp7 with q | q; exact q.2; exact absurd q.1 (by omega))
                         | exact Or.inr (by rw [show (prsS S0 u v).getD i (0, 0) = t from Prod.ext h57.symm h102.symm]; exact List.mem_cons_self))
                · refine g_aload_n C d_M_pairs_105 rfl rfl ?_
                  refine g_iload_n C d_M_pairs_106 rfl rfl ?_
                  refine g_runI (wY_fix a ki kz kl kq) rfl (rn_V C (m_M_isBettered hX (g := i) hil) 0 1 wY_0 rfl rfl kc_M_isBettered k_M_143 ki_M_isBettered kx_M_isBettered kn_M hy_M_isBettered ⟨rfl, rfl⟩ ⟨by decide, by decide⟩ ⟨Nat.le_refl _, Nat.le_refl _⟩ rfl rfl (Nat.le_of_ble_eq_true rfl) d_M_pairs_107) (fun r7 S7 hp7 => ?_)
                  obtain ⟨hS7, hp7⟩ := hp7
                  refine GG.at hS7 ?_
                  refine g_if_ne (tgt := 153) C d_M_pairs_110 (by decide) rfl (by omega) (fun h110 => ?_) (fun h110 => ?_)
                  · obtain ⟨i2, e_i2⟩ : ∃ z : Int, z = (i : Int) + 1 := ⟨_, rfl⟩
                    refine g_iinc (q := 1) (z := i2) (lv' := [(3, .int (iI i2)), (4, .int (iI n4)), (0, .ref (a 0)), (1, .int (iI u)), (2, .int (iI v))]) C d_M_pairs_153 rfl e_i2.symm (by decide) rfl rfl ?_
                    refine g_goto (tgt := 25) C d_M_pairs_156 (by decide) ?_
                    refine GG.lvs (lv' := [(3, .int (iI ((i + 1 : Nat) : Int))), (0, .ref (a 0)), (1, .int (iI u)), (2, .int (iI v))]) (by rw [show i2 = ((i + 1 : Nat) : Int) by omega]; simp [lk]) ?_
                    first
                      | (exfalso; omega)
                      | (refine ih (i + 1) _ _ (by omega) (by omega) (eqx_us (eqx_us (eqx_us hE (by decide)) (by decide)) (by decide)) (XP_us3 hX) (gnt_push hg hil hw (by rcases hp7 with q | q; exact absurd q.1 (by omega); exact q.2) ?_) ?_ ?_
                         · intro t2 B2 e2
                           first
                             | (cases e2; done)
                             | (injection e2 with e3 e4
                                subst e3
                                first | exact h57 | exact absurd (gnt_same hg hil h57 h102) (fun q => by rcases hp7 with w | w; exact absurd w.1 (by omega); exact w.2 _ q.2 q.1) | omega)
                         · exact PBY_pushc hB
                         · intro q hq
                           rcases List.mem_cons.mp hq with rfl | hq
                           · exact ⟨by rw [← hxi.1]; exact bx1, by rw [← hxi.2]; exact bx2⟩
                           · exact hq9 q hq)
                      | (refine ih (i + 1) _ _ (by omega) (by omega) hE hX (gnt_skip hg hil ?_) hB hq9
                         first
                           | exact Or.inl (by rcases hp7 with q | q; exact q.2; exact absurd q.1 (by omega))
                           | exact Or.inr (by rw [show (prsS S0 u v).getD i (0, 0) = t from Prod.ext h57.symm h102.symm]; exact List.mem_cons_self))
                  · refine g_aload_n C d_M_pairs_113 rfl rfl ?_
                    refine g_get C 0 20 i_M wY_0 rfl (by decide) k_M_45 rfl rfl d_M_pairs_114 rfl ?_
                    refine g_aload_n C d_M_pairs_117 rfl rfl ?_
                    refine g_get C 0 19 i_M wY_0 rfl (by decide) k_M_80 rfl rfl d_M_pairs_118 rfl ?_
                    refine g_v (z' := ((B'.length : Int) + 1)) (PBY_top hB).1 ?_
                    refine g_aload_n C d_M_pairs_121 rfl rfl ?_
                    refine g_get C 0 8 i_M wY_0 rfl (by decide) k_M_26 rfl rfl d_M_pairs_122 rfl ?_
                    refine g_iload_n C d_M_pairs_125 rfl rfl ?_
                    refine g_iald C 6 0 wY_6 rfl (by omega) (by omega) (by decide) d_M_pairs_126 rfl ?_
                    refine g_v (z' := ((prsS S0 u v).getD i (0, 0)).1) hxi.1 ?_
                    refine g_iast C 12 0 wY_12 rfl (by omega) (by omega) (by decide) wY_s12 d_M_pairs_127 rfl ?_
                    refine g_aload_n C d_M_pairs_128 rfl rfl ?_
                    refine g_get C 0 21 i_M wY_0 rfl (by decide) k_M_48 rfl rfl d_M_pairs_129 rfl ?_
                    refine g_aload_n C d_M_pairs_132 rfl rfl ?_
                    refine g_get C 0 19 i_M wY_0 rfl (by decide) k_M_80 rfl rfl d_M_pairs_133 rfl ?_
                    refine g_v (z' := ((B'.length : Int) + 1)) (by rw [us_n (by decide)]; exact (PBY_top hB).1) ?_
                    refine g_aload_n C d_M_pairs_136 rfl rfl ?_
                    refine g_get C 0 9 i_M wY_0 rfl (by decide) k_M_29 rfl rfl d_M_pairs_137 rfl ?_
                    refine g_iload_n C d_M_pairs_140 rfl rfl ?_
                    refine g_iald C 7 0 wY_7 rfl (by omega) (by omega) (by decide) d_M_pairs_141 rfl ?_
                    refine g_v (z' := ((prsS S0 u v).getD i (0, 0)).2) (by rw [us_n (by decide)]; exact hxi.2) ?_
                    refine g_iast C 13 0 wY_13 rfl (by omega) (by omega) (by decide) wY_s13 d_M_pairs_142 rfl ?_
                    refine g_aload_n C d_M_pairs_143 rfl rfl ?_
                    refine g_dup C d_M_pairs_144 rfl rfl ?_
                    refine g_get C 0 19 i_M wY_0 rfl (by decide) k_M_80 rfl rfl d_M_pairs_145 rfl ?_
                    refine g_v (z' := ((B'.length : Int) + 1)) (by rw [us_n (by decide), us_n (by decide)]; exact (PBY_top hB).1) ?_
                    refine g_iconst (z := 1) C d_M_pairs_148 rfl rfl ?_
                    refine g_iadd C d_M_pairs_149 rfl rfl ?_
                    refine g_put (ty := .int) C 0 19 ty_M i_M ty_M_ok n_M wY_0 rfl (by decide) k_M_80 rfl rfl (by decide +kernel) rfl rfl (Nat.le_of_ble_eq_true rfl) wY_p0_19 d_M_pairs_150 rfl ?_
                    obtain ⟨i2, e_i2⟩ : ∃ z : Int, z = (i : Int) + 1 := ⟨_, rfl⟩
                    refine g_iinc (q := 1) (z := i2) (lv' := [(3, .int (iI i2)), (4, .int (iI n4)), (0, .ref (a 0)), (1, .int (iI u)), (2, .int (iI v))]) C d_M_pairs_153 rfl e_i2.symm (by decide) rfl rfl ?_
                    refine g_goto (tgt := 25) C d_M_pairs_156 (by decide) ?_
                    refine GG.lvs (lv' := [(3, .int (iI ((i + 1 : Nat) : Int))), (0, .ref (a 0)), (1, .int (iI u)), (2, .int (iI v))]) (by rw [show i2 = ((i + 1 : Nat) : Int) by omega]; simp [lk]) ?_
                    first
                      | (exfalso; omega)
                      | (refine ih (i + 1) _ _ (by omega) (by omega) (eqx_us (eqx_us (eqx_us hE (by decide)) (by decide)) (by decide)) (XP_us3 hX) (gnt_push hg hil hw (by rcases hp7 with q | q; exact absurd q.1 (by omega); exact q.2) ?_) ?_ ?_
                         · intro t2 B2 e2
                           first
                             | (cases e2; done)
                             | (injection e2 with e3 e4
                                subst e3
                                first | exact h57 | exact absurd (gnt_same hg hil h57 h102) (fun q => by rcases hp7 with w | w; exact absurd w.1 (by omega); exact w.2 _ q.2 q.1) | omega)
                         · exact PBY_pushc hB
                         · intro q hq
                           rcases List.mem_cons.mp hq with rfl | hq
                           · exact ⟨by rw [← hxi.1]; exact bx1, by rw [← hxi.2]; exact bx2⟩
                           · exact hq9 q hq)
                      | (refine ih (i + 1) _ _ (by omega) (by omega) hE hX (gnt_skip hg hil ?_) hB hq9
                         first
                           | exact Or.inl (by rcases hp7 with q | q; exact q.2; exact absurd q.1 (by omega))
                           | exact Or.inr (by rw [show (prsS S0 u v).getD i (0, 0) = t from Prod.ext h57.symm h102.symm]; exact List.mem_cons_self))
            · refine g_aload_n C d_M_pairs_72 rfl rfl ?_
              refine g_iload_n C d_M_pairs_73 rfl rfl ?_
              refine g_runI (wY_fix a ki kz kl kq) rfl (rn_V C (m_M_isBettered hX (g := i) hil) 0 1 wY_0 rfl rfl kc_M_isBettered k_M_143 ki_M_isBettered kx_M_isBettered kn_M hy_M_isBettered ⟨rfl, rfl⟩ ⟨by decide, by decide⟩ ⟨Nat.le_refl _, Nat.le_refl _⟩ rfl rfl (Nat.le_of_ble_eq_true rfl) d_M_pairs_74) (fun r7 S7 hp7 => ?_)
              obtain ⟨hS7, hp7⟩ := hp7
              refine GG.at hS7 ?_
              refine g_if_eq (tgt := 113) C d_M_pairs_77 (by decide) rfl (by omega) (fun h77 => ?_) (fun h77 => ?_)
              · refine g_aload_n C d_M_pairs_113 rfl rfl ?_
                refine g_get C 0 20 i_M wY_0 rfl (by decide) k_M_45 rfl rfl d_M_pairs_114 rfl ?_
                refine g_aload_n C d_M_pairs_117 rfl rfl ?_
                refine g_get C 0 19 i_M wY_0 rfl (by decide) k_M_80 rfl rfl d_M_pairs_118 rfl ?_
                refine g_v (z' := ((B'.length : Int) + 1)) (PBY_top hB).1 ?_
                refine g_aload_n C d_M_pairs_121 rfl rfl ?_
                refine g_get C 0 8 i_M wY_0 rfl (by decide) k_M_26 rfl rfl d_M_pairs_122 rfl ?_
                refine g_iload_n C d_M_pairs_125 rfl rfl ?_
                refine g_iald C 6 0 wY_6 rfl (by omega) (by omega) (by decide) d_M_pairs_126 rfl ?_
                refine g_v (z' := ((prsS S0 u v).getD i (0, 0)).1) hxi.1 ?_
                refine g_iast C 12 0 wY_12 rfl (by omega) (by omega) (by decide) wY_s12 d_M_pairs_127 rfl ?_
                refine g_aload_n C d_M_pairs_128 rfl rfl ?_
                refine g_get C 0 21 i_M wY_0 rfl (by decide) k_M_48 rfl rfl d_M_pairs_129 rfl ?_
                refine g_aload_n C d_M_pairs_132 rfl rfl ?_
                refine g_get C 0 19 i_M wY_0 rfl (by decide) k_M_80 rfl rfl d_M_pairs_133 rfl ?_
                refine g_v (z' := ((B'.length : Int) + 1)) (by rw [us_n (by decide)]; exact (PBY_top hB).1) ?_
                refine g_aload_n C d_M_pairs_136 rfl rfl ?_
                refine g_get C 0 9 i_M wY_0 rfl (by decide) k_M_29 rfl rfl d_M_pairs_137 rfl ?_
                refine g_iload_n C d_M_pairs_140 rfl rfl ?_
                refine g_iald C 7 0 wY_7 rfl (by omega) (by omega) (by decide) d_M_pairs_141 rfl ?_
                refine g_v (z' := ((prsS S0 u v).getD i (0, 0)).2) (by rw [us_n (by decide)]; exact hxi.2) ?_
                refine g_iast C 13 0 wY_13 rfl (by omega) (by omega) (by decide) wY_s13 d_M_pairs_142 rfl ?_
                refine g_aload_n C d_M_pairs_143 rfl rfl ?_
                refine g_dup C d_M_pairs_144 rfl rfl ?_
                refine g_get C 0 19 i_M wY_0 rfl (by decide) k_M_80 rfl rfl d_M_pairs_145 rfl ?_
                refine g_v (z' := ((B'.length : Int) + 1)) (by rw [us_n (by decide), us_n (by decide)]; exact (PBY_top hB).1) ?_
                refine g_iconst (z := 1) C d_M_pairs_148 rfl rfl ?_
                refine g_iadd C d_M_pairs_149 rfl rfl ?_
                refine g_put (ty := .int) C 0 19 ty_M i_M ty_M_ok n_M wY_0 rfl (by decide) k_M_80 rfl rfl (by decide +kernel) rfl rfl (Nat.le_of_ble_eq_true rfl) wY_p0_19 d_M_pairs_150 rfl ?_
                obtain ⟨i2, e_i2⟩ : ∃ z : Int, z = (i : Int) + 1 := ⟨_, rfl⟩
                refine g_iinc (q := 1) (z := i2) (lv' := [(3, .int (iI i2)), (4, .int (iI n4)), (0, .ref (a 0)), (1, .int (iI u)), (2, .int (iI v))]) C d_M_pairs_153 rfl e_i2.symm (by decide) rfl rfl ?_
                refine g_goto (tgt := 25) C d_M_pairs_156 (by decide) ?_
                refine GG.lvs (lv' := [(3, .int (iI ((i + 1 : Nat) : Int))), (0, .ref (a 0)), (1, .int (iI u)), (2, .int (iI v))]) (by rw [show i2 = ((i + 1 : Nat) : Int) by omega]; simp [lk]) ?_
                first
                  | (exfalso; omega)
                  | (refine ih (i + 1) _ _ (by omega) (by omega) (eqx_us (eqx_us (eqx_us hE (by decide)) (by decide)) (by decide)) (XP_us3 hX) (gnt_push hg hil hw (by rcases hp7 with q | q; exact absurd q.1 (by omega); exact q.2) ?_) ?_ ?_
                     · intro t2 B2 e2
                       first
                         | (cases e2; done)
                         | (injection e2 with e3 e4
                            subst e3
                            first | exact h57 | exact absurd (gnt_same hg hil h57 h102) (fun q => by rcases hp7 with w | w; exact absurd w.1 (by omega); exact w.2 _ q.2 q.1) | omega)
                     · exact PBY_pushc hB
                     · intro q hq
                       rcases List.mem_cons.mp hq with rfl | hq
                       · exact ⟨by rw [← hxi.1]; exact bx1, by rw [← hxi.2]; exact bx2⟩
                       · exact hq9 q hq)
                  | (refine ih (i + 1) _ _ (by omega) (by omega) hE hX (gnt_skip hg hil ?_) hB hq9
                     first
                       | exact Or.inl (by rcases hp7 with q | q; exact q.2; exact absurd q.1 (by omega))
                       | exact Or.inr (by rw [show (prsS S0 u v).getD i (0, 0) = t from Prod.ext h57.symm h102.symm]; exact List.mem_cons_self))
              · refine g_iload C d_M_pairs_80 rfl rfl ?_
                refine g_if_ne (tgt := 153) C d_M_pairs_82 (by decide) rfl (by omega) (fun h82 => ?_) (fun h82 => ?_)
                · obtain ⟨i2, e_i2⟩ : ∃ z : Int, z = (i : Int) + 1 := ⟨_, rfl⟩
                  refine g_iinc (q := 1) (z := i2) (lv' := [(3, .int (iI i2)), (4, .int (iI n4)), (0, .ref (a 0)), (1, .int (iI u)), (2, .int (iI v))]) C d_M_pairs_153 rfl e_i2.symm (by decide) rfl rfl ?_
                  refine g_goto (tgt := 25) C d_M_pairs_156 (by decide) ?_
                  refine GG.lvs (lv' := [(3, .int (iI ((i + 1 : Nat) : Int))), (0, .ref (a 0)), (1, .int (iI u)), (2, .int (iI v))]) (by rw [show i2 = ((i + 1 : Nat) : Int) by omega]; simp [lk]) ?_
                  first
                    | (exfalso; omega)
                    | (refine ih (i + 1) _ _ (by omega) (by omega) (eqx_us (eqx_us (eqx_us hE (by decide)) (by decide)) (by decide)) (XP_us3 hX) (gnt_push hg hil hw (by rcases hp7 with q | q; exact absurd q.1 (by omega); exact q.2) ?_) ?_ ?_
                       · intro t2 B2 e2
                         first
                           | (cases e2; done)
                           | (injection e2 with e3 e4
                              subst e3
                              first | exact h57 | exact absurd (gnt_same hg hil h57 h102) (fun q => by rcases hp7 with w | w; exact absurd w.1 (by omega); exact w.2 _ q.2 q.1) | omega)
                       · exact PBY_pushc hB
                       · intro q hq
                         rcases List.mem_cons.mp hq with rfl | hq
                         · exact ⟨by rw [← hxi.1]; exact bx1, by rw [← hxi.2]; exact bx2⟩
                         · exact hq9 q hq)
                    | (refine ih (i + 1) _ _ (by omega) (by omega) hE hX (gnt_skip hg hil ?_) hB hq9
                       first
                         | exact Or.inl (by rcases hp7 with q | q; exact q.2; exact absurd q.1 (by omega))
                         | exact Or.inr (by rw [show (prsS S0 u v).getD i (0, 0) = t from Prod.ext h57.symm h102.symm]; exact List.mem_cons_self))
                · refine g_aload_n C d_M_pairs_85 rfl rfl ?_
                  refine g_get C 0 21 i_M wY_0 rfl (by decide) k_M_48 rfl rfl d_M_pairs_86 rfl ?_
                  refine g_aload_n C d_M_pairs_89 rfl rfl ?_
                  refine g_get C 0 19 i_M wY_0 rfl (by decide) k_M_80 rfl rfl d_M_pairs_90 rfl ?_
                  refine g_v (z' := ((B'.length : Int) + 1)) (PBY_top hB).1 ?_
                  refine g_iconst (z := 1) C d_M_pairs_93 rfl rfl ?_
                  refine g_isub (z := (B'.length : Int)) C d_M_pairs_94 (by omega) rfl ?_
                  refine g_iald C 13 0 wY_13 rfl (by omega) (by omega) (by decide) d_M_pairs_95 rfl ?_
                  refine g_v (z' := t.2) (PBY_top hB).2.2 ?_
                  refine g_aload_n C d_M_pairs_96 rfl rfl ?_
                  refine g_get C 0 9 i_M wY_0 rfl (by decide) k_M_29 rfl rfl d_M_pairs_97 rfl ?_
                  refine g_iload_n C d_M_pairs_100 rfl rfl ?_
                  refine g_iald C 7 0 wY_7 rfl (by omega) (by omega) (by decide) d_M_pairs_101 rfl ?_
                  refine g_v (z' := ((prsS S0 u v).getD i (0, 0)).2) hxi.2 ?_
                  refine g_icmp_eq (tgt := 153) C d_M_pairs_102 (by decide) rfl (by omega) (by rw [← hxi.2]; omega) (fun h102 => ?_) (fun h102 => ?_)
                  · obtain ⟨i2, e_i2⟩ : ∃ z : Int, z = (i : Int) + 1 := ⟨_, rfl⟩
                    refine g_iinc (q := 1) (z := i2) (lv' := [(3, .int (iI i2)), (4, .int (iI n4)), (0, .ref (a 0)), (1, .int (iI u)), (2, .int (iI v))]) C d_M_pairs_153 rfl e_i2.symm (by decide) rfl rfl ?_
                    refine g_goto (tgt := 25) C d_M_pairs_156 (by decide) ?_
                    refine GG.lvs (lv' := [(3, .int (iI ((i + 1 : Nat) : Int))), (0, .ref (a 0)), (1, .int (iI u)), (2, .int (iI v))]) (by rw [show i2 = ((i + 1 : Nat) : Int) by omega]; simp [lk]) ?_
                    first
                      | (exfalso; omega)
                      | (refine ih (i + 1) _ _ (by omega) (by omega) (eqx_us (eqx_us (eqx_us hE (by decide)) (by decide)) (by decide)) (XP_us3 hX) (gnt_push hg hil hw (by rcases hp7 with q | q; exact absurd q.1 (by omega); exact q.2) ?_) ?_ ?_
                         · intro t2 B2 e2
                           first
                             | (cases e2; done)
                             | (injection e2 with e3 e4
                                subst e3
                                first | exact h57 | exact absurd (gnt_same hg hil h57 h102) (fun q => by rcases hp7 with w | w; exact absurd w.1 (by omega); exact w.2 _ q.2 q.1) | omega)
                         · exact PBY_pushc hB
                         · intro q hq
                           rcases List.mem_cons.mp hq with rfl | hq
                           · exact ⟨by rw [← hxi.1]; exact bx1, by rw [← hxi.2]; exact bx2⟩
                           · exact hq9 q hq)
                      | (refine ih (i + 1) _ _ (by omega) (by omega) hE hX (gnt_skip hg hil ?_) hB hq9
                         first
                           | exact Or.inl (by rcases hp7 with q | q; exact q.2; exact absurd q.1 (by omega))
                           | exact Or.inr (by rw [show (prsS S0 u v).getD i (0, 0) = t from Prod.ext h57.symm h102.symm]; exact List.mem_cons_self))
                  · refine g_aload_n C d_M_pairs_105 rfl rfl ?_
                    refine g_iload_n C d_M_pairs_106 rfl rfl ?_
                    refine g_runI (wY_fix a ki kz kl kq) rfl (rn_V C (m_M_isBettered hX (g := i) hil) 0 1 wY_0 rfl rfl kc_M_isBettered k_M_143 ki_M_isBettered kx_M_isBettered kn_M hy_M_isBettered ⟨rfl, rfl⟩ ⟨by decide, by decide⟩ ⟨Nat.le_refl _, Nat.le_refl _⟩ rfl rfl (Nat.le_of_ble_eq_true rfl) d_M_pairs_107) (fun r7 S7 hp7 => ?_)
                    obtain ⟨hS7, hp7⟩ := hp7
                    refine GG.at hS7 ?_
                    refine g_if_ne (tgt := 153) C d_M_pairs_110 (by decide) rfl (by omega) (fun h110 => ?_) (fun h110 => ?_)
                    · obtain ⟨i2, e_i2⟩ : ∃ z : Int, z = (i : Int) + 1 := ⟨_, rfl⟩
                      refine g_iinc (q := 1) (z := i2) (lv' := [(3, .int (iI i2)), (4, .int (iI n4)), (0, .ref (a 0)), (1, .int (iI u)), (2, .int (iI v))]) C d_M_pairs_153 rfl e_i2.symm (by decide) rfl rfl ?_
                      refine g_goto (tgt := 25) C d_M_pairs_156 (by decide) ?_
                      refine GG.lvs (lv' := [(3, .int (iI ((i + 1 : Nat) : Int))), (0, .ref (a 0)), (1, .int (iI u)), (2, .int (iI v))]) (by rw [show i2 = ((i + 1 : Nat) : Int) by omega]; simp [lk]) ?_
                      first
                        | (exfalso; omega)
                        | (refine ih (i + 1) _ _ (by omega) (by omega) (eqx_us (eqx_us (eqx_us hE (by decide)) (by decide)) (by decide)) (XP_us3 hX) (gnt_push hg hil hw (by rcases hp7 with q | q; exact absurd q.1 (by omega); exact q.2) ?_) ?_ ?_
                           · intro t2 B2 e2
                             first
                               | (cases e2; done)
                               | (injection e2 with e3 e4
                                  subst e3
                                  first | exact h57 | exact absurd (gnt_same hg hil h57 h102) (fun q => by rcases hp7 with w | w; exact absurd w.1 (by omega); exact w.2 _ q.2 q.1) | omega)
                           · exact PBY_pushc hB
                           · intro q hq
                             rcases List.mem_cons.mp hq with rfl | hq
                             · exact ⟨by rw [← hxi.1]; exact bx1, by rw [← hxi.2]; exact bx2⟩
                             · exact hq9 q hq)
                        | (refine ih (i + 1) _ _ (by omega) (by omega) hE hX (gnt_skip hg hil ?_) hB hq9
                           first
                             | exact Or.inl (by rcases hp7 with q | q; exact q.2; exact absurd q.1 (by omega))
                             | exact Or.inr (by rw [show (prsS S0 u v).getD i (0, 0) = t from Prod.ext h57.symm h102.symm]; exact List.mem_cons_self))
                    · refine g_aload_n C d_M_pairs_113 rfl rfl ?_
                      refine g_get C 0 20 i_M wY_0 rfl (by decide) k_M_45 rfl rfl d_M_pairs_114 rfl ?_
                      refine g_aload_n C d_M_pairs_117 rfl rfl ?_
                      refine g_get C 0 19 i_M wY_0 rfl (by decide) k_M_80 rfl rfl d_M_pairs_118 rfl ?_
                      refine g_v (z' := ((B'.length : Int) + 1)) (PBY_top hB).1 ?_
                      refine g_aload_n C d_M_pairs_121 rfl rfl ?_
                      refine g_get C 0 8 i_M wY_0 rfl (by decide) k_M_26 rfl rfl d_M_pairs_122 rfl ?_
                      refine g_iload_n C d_M_pairs_125 rfl rfl ?_
                      refine g_iald C 6 0 wY_6 rfl (by omega) (by omega) (by decide) d_M_pairs_126 rfl ?_
                      refine g_v (z' := ((prsS S0 u v).getD i (0, 0)).1) hxi.1 ?_
                      refine g_iast C 12 0 wY_12 rfl (by omega) (by omega) (by decide) wY_s12 d_M_pairs_127 rfl ?_
                      refine g_aload_n C d_M_pairs_128 rfl rfl ?_
                      refine g_get C 0 21 i_M wY_0 rfl (by decide) k_M_48 rfl rfl d_M_pairs_129 rfl ?_
                      refine g_aload_n C d_M_pairs_132 rfl rfl ?_
                      refine g_get C 0 19 i_M wY_0 rfl (by decide) k_M_80 rfl rfl d_M_pairs_133 rfl ?_
                      refine g_v (z' := ((B'.length : Int) + 1)) (by rw [us_n (by decide)]; exact (PBY_top hB).1) ?_
                      refine g_aload_n C d_M_pairs_136 rfl rfl ?_
                      refine g_get C 0 9 i_M wY_0 rfl (by decide) k_M_29 rfl rfl d_M_pairs_137 rfl ?_
                      refine g_iload_n C d_M_pairs_140 rfl rfl ?_
                      refine g_iald C 7 0 wY_7 rfl (by omega) (by omega) (by decide) d_M_pairs_141 rfl ?_
                      refine g_v (z' := ((prsS S0 u v).getD i (0, 0)).2) (by rw [us_n (by decide)]; exact hxi.2) ?_
                      refine g_iast C 13 0 wY_13 rfl (by omega) (by omega) (by decide) wY_s13 d_M_pairs_142 rfl ?_
                      refine g_aload_n C d_M_pairs_143 rfl rfl ?_
                      refine g_dup C d_M_pairs_144 rfl rfl ?_
                      refine g_get C 0 19 i_M wY_0 rfl (by decide) k_M_80 rfl rfl d_M_pairs_145 rfl ?_
                      refine g_v (z' := ((B'.length : Int) + 1)) (by rw [us_n (by decide), us_n (by decide)]; exact (PBY_top hB).1) ?_
                      refine g_iconst (z := 1) C d_M_pairs_148 rfl rfl ?_
                      refine g_iadd C d_M_pairs_149 rfl rfl ?_
                      refine g_put (ty := .int) C 0 19 ty_M i_M ty_M_ok n_M wY_0 rfl (by decide) k_M_80 rfl rfl (by decide +kernel) rfl rfl (Nat.le_of_ble_eq_true rfl) wY_p0_19 d_M_pairs_150 rfl ?_
                      obtain ⟨i2, e_i2⟩ : ∃ z : Int, z = (i : Int) + 1 := ⟨_, rfl⟩
                      refine g_iinc (q := 1) (z := i2) (lv' := [(3, .int (iI i2)), (4, .int (iI n4)), (0, .ref (a 0)), (1, .int (iI u)), (2, .int (iI v))]) C d_M_pairs_153 rfl e_i2.symm (by decide) rfl rfl ?_
                      refine g_goto (tgt := 25) C d_M_pairs_156 (by decide) ?_
                      refine GG.lvs (lv' := [(3, .int (iI ((i + 1 : Nat) : Int))), (0, .ref (a 0)), (1, .int (iI u)), (2, .int (iI v))]) (by rw [show i2 = ((i + 1 : Nat) : Int) by omega]; simp [lk]) ?_
                      first
                        | (exfalso; omega)
                        | (refine ih (i + 1) _ _ (by omega) (by omega) (eqx_us (eqx_us (eqx_us hE (by decide)) (by decide)) (by decide)) (XP_us3 hX) (gnt_push hg hil hw (by rcases hp7 with q | q; exact absurd q.1 (by omega); exact q.2) ?_) ?_ ?_
                           · intro t2 B2 e2
                             first
                               | (cases e2; done)
                               | (injection e2 with e3 e4
                                  subst e3
                                  first | exact h57 | exact absurd (gnt_same hg hil h57 h102) (fun q => by rcases hp7 with w | w; exact absurd w.1 (by omega); exact w.2 _ q.2 q.1) | omega)
                           · exact PBY_pushc hB
                           · intro q hq
                             rcases List.mem_cons.mp hq with rfl | hq
                             · exact ⟨by rw [← hxi.1]; exact bx1, by rw [← hxi.2]; exact bx2⟩
                             · exact hq9 q hq)
                        | (refine ih (i + 1) _ _ (by omega) (by omega) hE hX (gnt_skip hg hil ?_) hB hq9
                           first
                             | exact Or.inl (by rcases hp7 with q | q; exact q.2; exact absurd q.1 (by omega))
                             | exact Or.inr (by rw [show (prsS S0 u v).getD i (0, 0) = t from Prod.ext h57.symm h102.symm]; exact List.mem_cons_self))
          · refine g_iconst (z := 1) C d_M_pairs_60 rfl rfl ?_
            refine g_goto (tgt := 65) C d_M_pairs_61 (by decide) ?_
            refine g_nm (fun n4 e_n4 => ?_)
            refine g_istore (lv' := [(4, .int (iI n4)), (3, .int (iI (i : Int))), (0, .ref (a 0)), (1, .int (iI u)), (2, .int (iI v))]) C d_M_pairs_65 (by decide) rfl rfl ?_
            refine g_iload C d_M_pairs_67 rfl rfl ?_
            refine g_if_eq (tgt := 80) C d_M_pairs_69 (by decide) rfl (by omega) (fun h69 => ?_) (fun h69 => ?_)
            · refine g_iload C d_M_pairs_80 rfl rfl ?_
              refine g_if_ne (tgt := 153) C d_M_pairs_82 (by decide) rfl (by omega) (fun h82 => ?_) (fun h82 => ?_)
              · obtain ⟨i2, e_i2⟩ : ∃ z : Int, z = (i : Int) + 1 := ⟨_, rfl⟩
                refine g_iinc (q := 1) (z := i2) (lv' := [(3, .int (iI i2)), (4, .int (iI n4)), (0, .ref (a 0)), (1, .int (iI u)), (2, .int (iI v))]) C d_M_pairs_153 rfl e_i2.symm (by decide) rfl rfl ?_
                refine g_goto (tgt := 25) C d_M_pairs_156 (by decide) ?_
                refine GG.lvs (lv' := [(3, .int (iI ((i + 1 : Nat) : Int))), (0, .ref (a 0)), (1, .int (iI u)), (2, .int (iI v))]) (by rw [show i2 = ((i + 1 : Nat) : Int) by omega]; simp [lk]) ?_
                first
                  | (exfalso; omega)
                  | (refine ih (i + 1) _ _ (by omega) (by omega) (eqx_us (eqx_us (eqx_us hE (by decide)) (by decide)) (by decide)) (XP_us3 hX) (gnt_push hg hil hw (by rcases hp7 with q | q; exact absurd q.1 (by omega); exact q.2) ?_) ?_ ?_
                     · intro t2 B2 e2
                       first
                         | (cases e2; done)
                         | (injection e2 with e3 e4
                            subst e3
                            first | exact h57 | exact absurd (gnt_same hg hil h57 h102) (fun q => by rcases hp7 with w | w; exact absurd w.1 (by omega); exact w.2 _ q.2 q.1) | omega)
                     · exact PBY_pushc hB
                     · intro q hq
                       rcases List.mem_cons.mp hq with rfl | hq
                       · exact ⟨by rw [← hxi.1]; exact bx1, by rw [← hxi.2]; exact bx2⟩
                       · exact hq9 q hq)
                  | (refine ih (i + 1) _ _ (by omega) (by omega) hE hX (gnt_skip hg hil ?_) hB hq9
                     first
                       | exact Or.inl (by rcases hp7 with q | q; exact q.2; exact absurd q.1 (by omega))
                       | exact Or.inr (by rw [show (prsS S0 u v).getD i (0, 0) = t from Prod.ext h57.symm h102.symm]; exact List.mem_cons_self))
              · refine g_aload_n C d_M_pairs_85 rfl rfl ?_
                refine g_get C 0 21 i_M wY_0 rfl (by decide) k_M_48 rfl rfl d_M_pairs_86 rfl ?_
                refine g_aload_n C d_M_pairs_89 rfl rfl ?_
                refine g_get C 0 19 i_M wY_0 rfl (by decide) k_M_80 rfl rfl d_M_pairs_90 rfl ?_
                refine g_v (z' := ((B'.length : Int) + 1)) (PBY_top hB).1 ?_
                refine g_iconst (z := 1) C d_M_pairs_93 rfl rfl ?_
                refine g_isub (z := (B'.length : Int)) C d_M_pairs_94 (by omega) rfl ?_
                refine g_iald C 13 0 wY_13 rfl (by omega) (by omega) (by decide) d_M_pairs_95 rfl ?_
                refine g_v (z' := t.2) (PBY_top hB).2.2 ?_
                refine g_aload_n C d_M_pairs_96 rfl rfl ?_
                refine g_get C 0 9 i_M wY_0 rfl (by decide) k_M_29 rfl rfl d_M_pairs_97 rfl ?_
                refine g_iload_n C d_M_pairs_100 rfl rfl ?_
                refine g_iald C 7 0 wY_7 rfl (by omega) (by omega) (by decide) d_M_pairs_101 rfl ?_
                refine g_v (z' := ((prsS S0 u v).getD i (0, 0)).2) hxi.2 ?_
                refine g_icmp_eq (tgt := 153) C d_M_pairs_102 (by decide) rfl (by omega) (by rw [← hxi.2]; omega) (fun h102 => ?_) (fun h102 => ?_)
                · obtain ⟨i2, e_i2⟩ : ∃ z : Int, z = (i : Int) + 1 := ⟨_, rfl⟩
                  refine g_iinc (q := 1) (z := i2) (lv' := [(3, .int (iI i2)), (4, .int (iI n4)), (0, .ref (a 0)), (1, .int (iI u)), (2, .int (iI v))]) C d_M_pairs_153 rfl e_i2.symm (by decide) rfl rfl ?_
                  refine g_goto (tgt := 25) C d_M_pairs_156 (by decide) ?_
                  refine GG.lvs (lv' := [(3, .int (iI ((i + 1 : Nat) : Int))), (0, .ref (a 0)), (1, .int (iI u)), (2, .int (iI v))]) (by rw [show i2 = ((i + 1 : Nat) : Int) by omega]; simp [lk]) ?_
                  first
                    | (exfalso; omega)
                    | (refine ih (i + 1) _ _ (by omega) (by omega) (eqx_us (eqx_us (eqx_us hE (by decide)) (by decide)) (by decide)) (XP_us3 hX) (gnt_push hg hil hw (by rcases hp7 with q | q; exact absurd q.1 (by omega); exact q.2) ?_) ?_ ?_
                       · intro t2 B2 e2
                         first
                           | (cases e2; done)
                           | (injection e2 with e3 e4
                              subst e3
                              first | exact h57 | exact absurd (gnt_same hg hil h57 h102) (fun q => by rcases hp7 with w | w; exact absurd w.1 (by omega); exact w.2 _ q.2 q.1) | omega)
                       · exact PBY_pushc hB
                       · intro q hq
                         rcases List.mem_cons.mp hq with rfl | hq
                         · exact ⟨by rw [← hxi.1]; exact bx1, by rw [← hxi.2]; exact bx2⟩
                         · exact hq9 q hq)
                    | (refine ih (i + 1) _ _ (by omega) (by omega) hE hX (gnt_skip hg hil ?_) hB hq9
                       first
                         | exact Or.inl (by rcases hp7 with q | q; exact q.2; exact absurd q.1 (by omega))
                         | exact Or.inr (by rw [show (prsS S0 u v).getD i (0, 0) = t from Prod.ext h57.symm h102.symm]; exact List.mem_cons_self))
                · refine g_aload_n C d_M_pairs_105 rfl rfl ?_
                  refine g_iload_n C d_M_pairs_106 rfl rfl ?_
                  refine g_runI (wY_fix a ki kz kl kq) rfl (rn_V C (m_M_isBettered hX (g := i) hil) 0 1 wY_0 rfl rfl kc_M_isBettered k_M_143 ki_M_isBettered kx_M_isBettered kn_M hy_M_isBettered ⟨rfl, rfl⟩ ⟨by decide, by decide⟩ ⟨Nat.le_refl _, Nat.le_refl _⟩ rfl rfl (Nat.le_of_ble_eq_true rfl) d_M_pairs_107) (fun r7 S7 hp7 => ?_)
                  obtain ⟨hS7, hp7⟩ := hp7
                  refine GG.at hS7 ?_
                  refine g_if_ne (tgt := 153) C d_M_pairs_110 (by decide) rfl (by omega) (fun h110 => ?_) (fun h110 => ?_)
                  · obtain ⟨i2, e_i2⟩ : ∃ z : Int, z = (i : Int) + 1 := ⟨_, rfl⟩
                    refine g_iinc (q := 1) (z := i2) (lv' := [(3, .int (iI i2)), (4, .int (iI n4)), (0, .ref (a 0)), (1, .int (iI u)), (2, .int (iI v))]) C d_M_pairs_153 rfl e_i2.symm (by decide) rfl rfl ?_
                    refine g_goto (tgt := 25) C d_M_pairs_156 (by decide) ?_
                    refine GG.lvs (lv' := [(3, .int (iI ((i + 1 : Nat) : Int))), (0, .ref (a 0)), (1, .int (iI u)), (2, .int (iI v))]) (by rw [show i2 = ((i + 1 : Nat) : Int) by omega]; simp [lk]) ?_
                    first
                      | (exfalso; omega)
                      | (refine ih (i + 1) _ _ (by omega) (by omega) (eqx_us (eqx_us (eqx_us hE (by decide)) (by decide)) (by decide)) (XP_us3 hX) (gnt_push hg hil hw (by rcases hp7 with q | q; exact absurd q.1 (by omega); exact q.2) ?_) ?_ ?_
                         · intro t2 B2 e2
                           first
                             | (cases e2; done)
                             | (injection e2 with e3 e4
                                subst e3
                                first | exact h57 | exact absurd (gnt_same hg hil h57 h102) (fun q => by rcases hp7 with w | w; exact absurd w.1 (by omega); exact w.2 _ q.2 q.1) | omega)
                         · exact PBY_pushc hB
                         · intro q hq
                           rcases List.mem_cons.mp hq with rfl | hq
                           · exact ⟨by rw [← hxi.1]; exact bx1, by rw [← hxi.2]; exact bx2⟩
                           · exact hq9 q hq)
                      | (refine ih (i + 1) _ _ (by omega) (by omega) hE hX (gnt_skip hg hil ?_) hB hq9
                         first
                           | exact Or.inl (by rcases hp7 with q | q; exact q.2; exact absurd q.1 (by omega))
                           | exact Or.inr (by rw [show (prsS S0 u v).getD i (0, 0) = t from Prod.ext h57.symm h102.symm]; exact List.mem_cons_self))
                  · refine g_aload_n C d_M_pairs_113 rfl rfl ?_
                    refine g_get C 0 20 i_M wY_0 rfl (by decide) k_M_45 rfl rfl d_M_pairs_114 rfl ?_
                    refine g_aload_n C d_M_pairs_117 rfl rfl ?_
                    refine g_get C 0 19 i_M wY_0 rfl (by decide) k_M_80 rfl rfl d_M_pairs_118 rfl ?_
                    refine g_v (z' := ((B'.length : Int) + 1)) (PBY_top hB).1 ?_
                    refine g_aload_n C d_M_pairs_121 rfl rfl ?_
                    refine g_get C 0 8 i_M wY_0 rfl (by decide) k_M_26 rfl rfl d_M_pairs_122 rfl ?_
                    refine g_iload_n C d_M_pairs_125 rfl rfl ?_
                    refine g_iald C 6 0 wY_6 rfl (by omega) (by omega) (by decide) d_M_pairs_126 rfl ?_
                    refine g_v (z' := ((prsS S0 u v).getD i (0, 0)).1) hxi.1 ?_
                    refine g_iast C 12 0 wY_12 rfl (by omega) (by omega) (by decide) wY_s12 d_M_pairs_127 rfl ?_
                    refine g_aload_n C d_M_pairs_128 rfl rfl ?_
                    refine g_get C 0 21 i_M wY_0 rfl (by decide) k_M_48 rfl rfl d_M_pairs_129 rfl ?_
                    refine g_aload_n C d_M_pairs_132 rfl rfl ?_
                    refine g_get C 0 19 i_M wY_0 rfl (by decide) k_M_80 rfl rfl d_M_pairs_133 rfl ?_
                    refine g_v (z' := ((B'.length : Int) + 1)) (by rw [us_n (by decide)]; exact (PBY_top hB).1) ?_
                    refine g_aload_n C d_M_pairs_136 rfl rfl ?_
                    refine g_get C 0 9 i_M wY_0 rfl (by decide) k_M_29 rfl rfl d_M_pairs_137 rfl ?_
                    refine g_iload_n C d_M_pairs_140 rfl rfl ?_
                    refine g_iald C 7 0 wY_7 rfl (by omega) (by omega) (by decide) d_M_pairs_141 rfl ?_
                    refine g_v (z' := ((prsS S0 u v).getD i (0, 0)).2) (by rw [us_n (by decide)]; exact hxi.2) ?_
                    refine g_iast C 13 0 wY_13 rfl (by omega) (by omega) (by decide) wY_s13 d_M_pairs_142 rfl ?_
                    refine g_aload_n C d_M_pairs_143 rfl rfl ?_
                    refine g_dup C d_M_pairs_144 rfl rfl ?_
                    refine g_get C 0 19 i_M wY_0 rfl (by decide) k_M_80 rfl rfl d_M_pairs_145 rfl ?_
                    refine g_v (z' := ((B'.length : Int) + 1)) (by rw [us_n (by decide), us_n (by decide)]; exact (PBY_top hB).1) ?_
                    refine g_iconst (z := 1) C d_M_pairs_148 rfl rfl ?_
                    refine g_iadd C d_M_pairs_149 rfl rfl ?_
                    refine g_put (ty := .int) C 0 19 ty_M i_M ty_M_ok n_M wY_0 rfl (by decide) k_M_80 rfl rfl (by decide +kernel) rfl rfl (Nat.le_of_ble_eq_true rfl) wY_p0_19 d_M_pairs_150 rfl ?_
                    obtain ⟨i2, e_i2⟩ : ∃ z : Int, z = (i : Int) + 1 := ⟨_, rfl⟩
                    refine g_iinc (q := 1) (z := i2) (lv' := [(3, .int (iI i2)), (4, .int (iI n4)), (0, .ref (a 0)), (1, .int (iI u)), (2, .int (iI v))]) C d_M_pairs_153 rfl e_i2.symm (by decide) rfl rfl ?_
                    refine g_goto (tgt := 25) C d_M_pairs_156 (by decide) ?_
                    refine GG.lvs (lv' := [(3, .int (iI ((i + 1 : Nat) : Int))), (0, .ref (a 0)), (1, .int (iI u)), (2, .int (iI v))]) (by rw [show i2 = ((i + 1 : Nat) : Int) by omega]; simp [lk]) ?_
                    first
                      | (exfalso; omega)
                      | (refine ih (i + 1) _ _ (by omega) (by omega) (eqx_us (eqx_us (eqx_us hE (by decide)) (by decide)) (by decide)) (XP_us3 hX) (gnt_push hg hil hw (by rcases hp7 with q | q; exact absurd q.1 (by omega); exact q.2) ?_) ?_ ?_
                         · intro t2 B2 e2
                           first
                             | (cases e2; done)
                             | (injection e2 with e3 e4
                                subst e3
                                first | exact h57 | exact absurd (gnt_same hg hil h57 h102) (fun q => by rcases hp7 with w | w; exact absurd w.1 (by omega); exact w.2 _ q.2 q.1) | omega)
                         · exact PBY_pushc hB
                         · intro q hq
                           rcases List.mem_cons.mp hq with rfl | hq
                           · exact ⟨by rw [← hxi.1]; exact bx1, by rw [← hxi.2]; exact bx2⟩
                           · exact hq9 q hq)
                      | (refine ih (i + 1) _ _ (by omega) (by omega) hE hX (gnt_skip hg hil ?_) hB hq9
                         first
                           | exact Or.inl (by rcases hp7 with q | q; exact q.2; exact absurd q.1 (by omega))
                           | exact Or.inr (by rw [show (prsS S0 u v).getD i (0, 0) = t from Prod.ext h57.symm h102.symm]; exact List.mem_cons_self))
            · refine g_aload_n C d_M_pairs_72 rfl rfl ?_
              refine g_iload_n C d_M_pairs_73 rfl rfl ?_
              refine g_runI (wY_fix a ki kz kl kq) rfl (rn_V C (m_M_isBettered hX (g := i) hil) 0 1 wY_0 rfl rfl kc_M_isBettered k_M_143 ki_M_isBettered kx_M_isBettered kn_M hy_M_isBettered ⟨rfl, rfl⟩ ⟨by decide, by decide⟩ ⟨Nat.le_refl _, Nat.le_refl _⟩ rfl rfl (Nat.le_of_ble_eq_true rfl) d_M_pairs_74) (fun r7 S7 hp7 => ?_)
              obtain ⟨hS7, hp7⟩ := hp7
              refine GG.at hS7 ?_
              refine g_if_eq (tgt := 113) C d_M_pairs_77 (by decide) rfl (by omega) (fun h77 => ?_) (fun h77 => ?_)
              · refine g_aload_n C d_M_pairs_113 rfl rfl ?_
                refine g_get C 0 20 i_M wY_0 rfl (by decide) k_M_45 rfl rfl d_M_pairs_114 rfl ?_
                refine g_aload_n C d_M_pairs_117 rfl rfl ?_
                refine g_get C 0 19 i_M wY_0 rfl (by decide) k_M_80 rfl rfl d_M_pairs_118 rfl ?_
                refine g_v (z' := ((B'.length : Int) + 1)) (PBY_top hB).1 ?_
                refine g_aload_n C d_M_pairs_121 rfl rfl ?_
                refine g_get C 0 8 i_M wY_0 rfl (by decide) k_M_26 rfl rfl d_M_pairs_122 rfl ?_
                refine g_iload_n C d_M_pairs_125 rfl rfl ?_
                refine g_iald C 6 0 wY_6 rfl (by omega) (by omega) (by decide) d_M_pairs_126 rfl ?_
                refine g_v (z' := ((prsS S0 u v).getD i (0, 0)).1) hxi.1 ?_
                refine g_iast C 12 0 wY_12 rfl (by omega) (by omega) (by decide) wY_s12 d_M_pairs_127 rfl ?_
                refine g_aload_n C d_M_pairs_128 rfl rfl ?_
                refine g_get C 0 21 i_M wY_0 rfl (by decide) k_M_48 rfl rfl d_M_pairs_129 rfl ?_
                refine g_aload_n C d_M_pairs_132 rfl rfl ?_
                refine g_get C 0 19 i_M wY_0 rfl (by decide) k_M_80 rfl rfl d_M_pairs_133 rfl ?_
                refine g_v (z' := ((B'.length : Int) + 1)) (by rw [us_n (by decide)]; exact (PBY_top hB).1) ?_
                refine g_aload_n C d_M_pairs_136 rfl rfl ?_
                refine g_get C 0 9 i_M wY_0 rfl (by decide) k_M_29 rfl rfl d_M_pairs_137 rfl ?_
                refine g_iload_n C d_M_pairs_140 rfl rfl ?_
                refine g_iald C 7 0 wY_7 rfl (by omega) (by omega) (by decide) d_M_pairs_141 rfl ?_
                refine g_v (z' := ((prsS S0 u v).getD i (0, 0)).2) (by rw [us_n (by decide)]; exact hxi.2) ?_
                refine g_iast C 13 0 wY_13 rfl (by omega) (by omega) (by decide) wY_s13 d_M_pairs_142 rfl ?_
                refine g_aload_n C d_M_pairs_143 rfl rfl ?_
                refine g_dup C d_M_pairs_144 rfl rfl ?_
                refine g_get C 0 19 i_M wY_0 rfl (by decide) k_M_80 rfl rfl d_M_pairs_145 rfl ?_
                refine g_v (z' := ((B'.length : Int) + 1)) (by rw [us_n (by decide), us_n (by decide)]; exact (PBY_top hB).1) ?_
                refine g_iconst (z := 1) C d_M_pairs_148 rfl rfl ?_
                refine g_iadd C d_M_pairs_149 rfl rfl ?_
                refine g_put (ty := .int) C 0 19 ty_M i_M ty_M_ok n_M wY_0 rfl (by decide) k_M_80 rfl rfl (by decide +kernel) rfl rfl (Nat.le_of_ble_eq_true rfl) wY_p0_19 d_M_pairs_150 rfl ?_
                obtain ⟨i2, e_i2⟩ : ∃ z : Int, z = (i : Int) + 1 := ⟨_, rfl⟩
                refine g_iinc (q := 1) (z := i2) (lv' := [(3, .int (iI i2)), (4, .int (iI n4)), (0, .ref (a 0)), (1, .int (iI u)), (2, .int (iI v))]) C d_M_pairs_153 rfl e_i2.symm (by decide) rfl rfl ?_
                refine g_goto (tgt := 25) C d_M_pairs_156 (by decide) ?_
                refine GG.lvs (lv' := [(3, .int (iI ((i + 1 : Nat) : Int))), (0, .ref (a 0)), (1, .int (iI u)), (2, .int (iI v))]) (by rw [show i2 = ((i + 1 : Nat) : Int) by omega]; simp [lk]) ?_
                first
                  | (exfalso; omega)
                  | (refine ih (i + 1) _ _ (by omega) (by omega) (eqx_us (eqx_us (eqx_us hE (by decide)) (by decide)) (by decide)) (XP_us3 hX) (gnt_push hg hil hw (by rcases hp7 with q | q; exact absurd q.1 (by omega); exact q.2) ?_) ?_ ?_
                     · intro t2 B2 e2
                       first
                         | (cases e2; done)
                         | (injection e2 with e3 e4
                            subst e3
                            first | exact h57 | exact absurd (gnt_same hg hil h57 h102) (fun q => by rcases hp7 with w | w; exact absurd w.1 (by omega); exact w.2 _ q.2 q.1) | omega)
                     · exact PBY_pushc hB
                     · intro q hq
                       rcases List.mem_cons.mp hq with rfl | hq
                       · exact ⟨by rw [← hxi.1]; exact bx1, by rw [← hxi.2]; exact bx2⟩
                       · exact hq9 q hq)
                  | (refine ih (i + 1) _ _ (by omega) (by omega) hE hX (gnt_skip hg hil ?_) hB hq9
                     first
                       | exact Or.inl (by rcases hp7 with q | q; exact q.2; exact absurd q.1 (by omega))
                       | exact Or.inr (by rw [show (prsS S0 u v).getD i (0, 0) = t from Prod.ext h57.symm h102.symm]; exact List.mem_cons_self))
              · refine g_iload C d_M_pairs_80 rfl rfl ?_
                refine g_if_ne (tgt := 153) C d_M_pairs_82 (by decide) rfl (by omega) (fun h82 => ?_) (fun h82 => ?_)
                · obtain ⟨i2, e_i2⟩ : ∃ z : Int, z = (i : Int) + 1 := ⟨_, rfl⟩
                  refine g_iinc (q := 1) (z := i2) (lv' := [(3, .int (iI i2)), (4, .int (iI n4)), (0, .ref (a 0)), (1, .int (iI u)), (2, .int (iI v))]) C d_M_pairs_153 rfl e_i2.symm (by decide) rfl rfl ?_
                  refine g_goto (tgt := 25) C d_M_pairs_156 (by decide) ?_
                  refine GG.lvs (lv' := [(3, .int (iI ((i + 1 : Nat) : Int))), (0, .ref (a 0)), (1, .int (iI u)), (2, .int (iI v))]) (by rw [show i2 = ((i + 1 : Nat) : Int) by omega]; simp [lk]) ?_
                  first
                    | (exfalso; omega)
                    | (refine ih (i + 1) _ _ (by omega) (by omega) (eqx_us (eqx_us (eqx_us hE (by decide)) (by decide)) (by decide)) (XP_us3 hX) (gnt_push hg hil hw (by rcases hp7 with q | q; exact absurd q.1 (by omega); exact q.2) ?_) ?_ ?_
                       · intro t2 B2 e2
                         first
                           | (cases e2; done)
                           | (injection e2 with e3 e4
                              subst e3
                              first | exact h57 | exact absurd (gnt_same hg hil h57 h102) (fun q => by rcases hp7 with w | w; exact absurd w.1 (by omega); exact w.2 _ q.2 q.1) | omega)
                       · exact PBY_pushc hB
                       · intro q hq
                         rcases List.mem_cons.mp hq with rfl | hq
                         · exact ⟨by rw [← hxi.1]; exact bx1, by rw [← hxi.2]; exact bx2⟩
                         · exact hq9 q hq)
                    | (refine ih (i + 1) _ _ (by omega) (by omega) hE hX (gnt_skip hg hil ?_) hB hq9
                       first
                         | exact Or.inl (by rcases hp7 with q | q; exact q.2; exact absurd q.1 (by omega))
                         | exact Or.inr (by rw [show (prsS S0 u v).getD i (0, 0) = t from Prod.ext h57.symm h102.symm]; exact List.mem_cons_self))
                · refine g_aload_n C d_M_pairs_85 rfl rfl ?_
                  refine g_get C 0 21 i_M wY_0 rfl (by decide) k_M_48 rfl rfl d_M_pairs_86 rfl ?_
                  refine g_aload_n C d_M_pairs_89 rfl rfl ?_
                  refine g_get C 0 19 i_M wY_0 rfl (by decide) k_M_80 rfl rfl d_M_pairs_90 rfl ?_
                  refine g_v (z' := ((B'.length : Int) + 1)) (PBY_top hB).1 ?_
                  refine g_iconst (z := 1) C d_M_pairs_93 rfl rfl ?_
                  refine g_isub (z := (B'.length : Int)) C d_M_pairs_94 (by omega) rfl ?_
                  refine g_iald C 13 0 wY_13 rfl (by omega) (by omega) (by decide) d_M_pairs_95 rfl ?_
                  refine g_v (z' := t.2) (PBY_top hB).2.2 ?_
                  refine g_aload_n C d_M_pairs_96 rfl rfl ?_
                  refine g_get C 0 9 i_M wY_0 rfl (by decide) k_M_29 rfl rfl d_M_pairs_97 rfl ?_
                  refine g_iload_n C d_M_pairs_100 rfl rfl ?_
                  refine g_iald C 7 0 wY_7 rfl (by omega) (by omega) (by decide) d_M_pairs_101 rfl ?_
                  refine g_v (z' := ((prsS S0 u v).getD i (0, 0)).2) hxi.2 ?_
                  refine g_icmp_eq (tgt := 153) C d_M_pairs_102 (by decide) rfl (by omega) (by rw [← hxi.2]; omega) (fun h102 => ?_) (fun h102 => ?_)
                  · obtain ⟨i2, e_i2⟩ : ∃ z : Int, z = (i : Int) + 1 := ⟨_, rfl⟩
                    refine g_iinc (q := 1) (z := i2) (lv' := [(3, .int (iI i2)), (4, .int (iI n4)), (0, .ref (a 0)), (1, .int (iI u)), (2, .int (iI v))]) C d_M_pairs_153 rfl e_i2.symm (by decide) rfl rfl ?_
                    refine g_goto (tgt := 25) C d_M_pairs_156 (by decide) ?_
                    refine GG.lvs (lv' := [(3, .int (iI ((i + 1 : Nat) : Int))), (0, .ref (a 0)), (1, .int (iI u)), (2, .int (iI v))]) (by rw [show i2 = ((i + 1 : Nat) : Int) by omega]; simp [lk]) ?_
                    first
                      | (exfalso; omega)
                      | (refine ih (i + 1) _ _ (by omega) (by omega) (eqx_us (eqx_us (eqx_us hE (by decide)) (by decide)) (by decide)) (XP_us3 hX) (gnt_push hg hil hw (by rcases hp7 with q | q; exact absurd q.1 (by omega); exact q.2) ?_) ?_ ?_
                         · intro t2 B2 e2
                           first
                             | (cases e2; done)
                             | (injection e2 with e3 e4
                                subst e3
                                first | exact h57 | exact absurd (gnt_same hg hil h57 h102) (fun q => by rcases hp7 with w | w; exact absurd w.1 (by omega); exact w.2 _ q.2 q.1) | omega)
                         · exact PBY_pushc hB
                         · intro q hq
                           rcases List.mem_cons.mp hq with rfl | hq
                           · exact ⟨by rw [← hxi.1]; exact bx1, by rw [← hxi.2]; exact bx2⟩
                           · exact hq9 q hq)
                      | (refine ih (i + 1) _ _ (by omega) (by omega) hE hX (gnt_skip hg hil ?_) hB hq9
                         first
                           | exact Or.inl (by rcases hp7 with q | q; exact q.2; exact absurd q.1 (by omega))
                           | exact Or.inr (by rw [show (prsS S0 u v).getD i (0, 0) = t from Prod.ext h57.symm h102.symm]; exact List.mem_cons_self))
                  · refine g_aload_n C d_M_pairs_105 rfl rfl ?_
                    refine g_iload_n C d_M_pairs_106 rfl rfl ?_
                    refine g_runI (wY_fix a ki kz kl kq) rfl (rn_V C (m_M_isBettered hX (g := i) hil) 0 1 wY_0 rfl rfl kc_M_isBettered k_M_143 ki_M_isBettered kx_M_isBettered kn_M hy_M_isBettered ⟨rfl, rfl⟩ ⟨by decide, by decide⟩ ⟨Nat.le_refl _, Nat.le_refl _⟩ rfl rfl (Nat.le_of_ble_eq_true rfl) d_M_pairs_107) (fun r7 S7 hp7 => ?_)
                    obtain ⟨hS7, hp7⟩ := hp7
                    refine GG.at hS7 ?_
                    refine g_if_ne (tgt := 153) C d_M_pairs_110 (by decide) rfl (by omega) (fun h110 => ?_) (fun h110 => ?_)
                    · obtain ⟨i2, e_i2⟩ : ∃ z : Int, z = (i : Int) + 1 := ⟨_, rfl⟩
                      refine g_iinc (q := 1) (z := i2) (lv' := [(3, .int (iI i2)), (4, .int (iI n4)), (0, .ref (a 0)), (1, .int (iI u)), (2, .int (iI v))]) C d_M_pairs_153 rfl e_i2.symm (by decide) rfl rfl ?_
                      refine g_goto (tgt := 25) C d_M_pairs_156 (by decide) ?_
                      refine GG.lvs (lv' := [(3, .int (iI ((i + 1 : Nat) : Int))), (0, .ref (a 0)), (1, .int (iI u)), (2, .int (iI v))]) (by rw [show i2 = ((i + 1 : Nat) : Int) by omega]; simp [lk]) ?_
                      first
                        | (exfalso; omega)
                        | (refine ih (i + 1) _ _ (by omega) (by omega) (eqx_us (eqx_us (eqx_us hE (by decide)) (by decide)) (by decide)) (XP_us3 hX) (gnt_push hg hil hw (by rcases hp7 with q | q; exact absurd q.1 (by omega); exact q.2) ?_) ?_ ?_
                           · intro t2 B2 e2
                             first
                               | (cases e2; done)
                               | (injection e2 with e3 e4
                                  subst e3
                                  first | exact h57 | exact absurd (gnt_same hg hil h57 h102) (fun q => by rcases hp7 with w | w; exact absurd w.1 (by omega); exact w.2 _ q.2 q.1) | omega)
                           · exact PBY_pushc hB
                           · intro q hq
                             rcases List.mem_cons.mp hq with rfl | hq
                             · exact ⟨by rw [← hxi.1]; exact bx1, by rw [← hxi.2]; exact bx2⟩
                             · exact hq9 q hq)
                        | (refine ih (i + 1) _ _ (by omega) (by omega) hE hX (gnt_skip hg hil ?_) hB hq9
                           first
                             | exact Or.inl (by rcases hp7 with q | q; exact q.2; exact absurd q.1 (by omega))
                             | exact Or.inr (by rw [show (prsS S0 u v).getD i (0, 0) = t from Prod.ext h57.symm h102.symm]; exact List.mem_cons_self))
                    · refine g_aload_n C d_M_pairs_113 rfl rfl ?_
                      refine g_get C 0 20 i_M wY_0 rfl (by decide) k_M_45 rfl rfl d_M_pairs_114 rfl ?_
                      refine g_aload_n C d_M_pairs_117 rfl rfl ?_
                      refine g_get C 0 19 i_M wY_0 rfl (by decide) k_M_80 rfl rfl d_M_pairs_118 rfl ?_
                      refine g_v (z' := ((B'.length : Int) + 1)) (PBY_top hB).1 ?_
                      refine g_aload_n C d_M_pairs_121 rfl rfl ?_
                      refine g_get C 0 8 i_M wY_0 rfl (by decide) k_M_26 rfl rfl d_M_pairs_122 rfl ?_
                      refine g_iload_n C d_M_pairs_125 rfl rfl ?_
                      refine g_iald C 6 0 wY_6 rfl (by omega) (by omega) (by decide) d_M_pairs_126 rfl ?_
                      refine g_v (z' := ((prsS S0 u v).getD i (0, 0)).1) hxi.1 ?_
                      refine g_iast C 12 0 wY_12 rfl (by omega) (by omega) (by decide) wY_s12 d_M_pairs_127 rfl ?_
                      refine g_aload_n C d_M_pairs_128 rfl rfl ?_
                      refine g_get C 0 21 i_M wY_0 rfl (by decide) k_M_48 rfl rfl d_M_pairs_129 rfl ?_
                      refine g_aload_n C d_M_pairs_132 rfl rfl ?_
                      refine g_get C 0 19 i_M wY_0 rfl (by decide) k_M_80 rfl rfl d_M_pairs_133 rfl ?_
                      refine g_v (z' := ((B'.length : Int) + 1)) (by rw [us_n (by decide)]; exact (PBY_top hB).1) ?_
                      refine g_aload_n C d_M_pairs_136 rfl rfl ?_
                      refine g_get C 0 9 i_M wY_0 rfl (by decide) k_M_29 rfl rfl d_M_pairs_137 rfl ?_
                      refine g_iload_n C d_M_pairs_140 rfl rfl ?_
                      refine g_iald C 7 0 wY_7 rfl (by omega) (by omega) (by decide) d_M_pairs_141 rfl ?_
                      refine g_v (z' := ((prsS S0 u v).getD i (0, 0)).2) (by rw [us_n (by decide)]; exact hxi.2) ?_
                      refine g_iast C 13 0 wY_13 rfl (by omega) (by omega) (by decide) wY_s13 d_M_pairs_142 rfl ?_
                      refine g_aload_n C d_M_pairs_143 rfl rfl ?_
                      refine g_dup C d_M_pairs_144 rfl rfl ?_
                      refine g_get C 0 19 i_M wY_0 rfl (by decide) k_M_80 rfl rfl d_M_pairs_145 rfl ?_
                      refine g_v (z' := ((B'.length : Int) + 1)) (by rw [us_n (by decide), us_n (by decide)]; exact (PBY_top hB).1) ?_
                      refine g_iconst (z := 1) C d_M_pairs_148 rfl rfl ?_
                      refine g_iadd C d_M_pairs_149 rfl rfl ?_
                      refine g_put (ty := .int) C 0 19 ty_M i_M ty_M_ok n_M wY_0 rfl (by decide) k_M_80 rfl rfl (by decide +kernel) rfl rfl (Nat.le_of_ble_eq_true rfl) wY_p0_19 d_M_pairs_150 rfl ?_
                      obtain ⟨i2, e_i2⟩ : ∃ z : Int, z = (i : Int) + 1 := ⟨_, rfl⟩
                      refine g_iinc (q := 1) (z := i2) (lv' := [(3, .int (iI i2)), (4, .int (iI n4)), (0, .ref (a 0)), (1, .int (iI u)), (2, .int (iI v))]) C d_M_pairs_153 rfl e_i2.symm (by decide) rfl rfl ?_
                      refine g_goto (tgt := 25) C d_M_pairs_156 (by decide) ?_
                      refine GG.lvs (lv' := [(3, .int (iI ((i + 1 : Nat) : Int))), (0, .ref (a 0)), (1, .int (iI u)), (2, .int (iI v))]) (by rw [show i2 = ((i + 1 : Nat) : Int) by omega]; simp [lk]) ?_
                      first
                        | (exfalso; omega)
                        | (refine ih (i + 1) _ _ (by omega) (by omega) (eqx_us (eqx_us (eqx_us hE (by decide)) (by decide)) (by decide)) (XP_us3 hX) (gnt_push hg hil hw (by rcases hp7 with q | q; exact absurd q.1 (by omega); exact q.2) ?_) ?_ ?_
                           · intro t2 B2 e2
                             first
                               | (cases e2; done)
                               | (injection e2 with e3 e4
                                  subst e3
                                  first | exact h57 | exact absurd (gnt_same hg hil h57 h102) (fun q => by rcases hp7 with w | w; exact absurd w.1 (by omega); exact w.2 _ q.2 q.1) | omega)
                           · exact PBY_pushc hB
                           · intro q hq
                             rcases List.mem_cons.mp hq with rfl | hq
                             · exact ⟨by rw [← hxi.1]; exact bx1, by rw [← hxi.2]; exact bx2⟩
                             · exact hq9 q hq)
                        | (refine ih (i + 1) _ _ (by omega) (by omega) hE hX (gnt_skip hg hil ?_) hB hq9
                           first
                             | exact Or.inl (by rcases hp7 with q | q; exact q.2; exact absurd q.1 (by omega))
                             | exact Or.inr (by rw [show (prsS S0 u v).getD i (0, 0) = t from Prod.ext h57.symm h102.symm]; exact List.mem_cons_self))

set_option maxRecDepth 100000 in
set_option maxHeartbeats 4000000 in
theorem m_M_pairs {l : Launch} {D : va_G} {a : Nat → Nat} {ki kz kl kq : ClassId} {S : Nat → Int → Int} {u v : Int} (hG : GJ S) (hu : r32 u) (hv : r32 v) : MY l D a ki kz kl kq y_M_pairs b_M_pairs 5 (some .int) rm_M_pairs [.ref (a 0), .int (iI u), .int (iI v)] S (pI fun r S' => (¬ twoS S u v ∧ r = -2 ∧ S' = S) ∨ (twoS S u v ∧ eqx [7, 8, 9, 10, 11, 12, 13, 19, 20, 21, 22, 23] S S' ∧ ∃ B, fnt (prsS S u v) B ∧ PBY S' B ∧ B.length ≤ 1458 ∧ r = B.length)) := by
  refine MM.go b_M_pairs 5 (some .int) "NextPathsModel" [(0, .ref (a 0)), (1, .int (iI u)), (2, .int (iI v))] (by decide) rfl rfl (Nat.le_of_ble_eq_true rfl) ?_
  intro p e s m args below meth c C hr hk
  refine g_aload_n C d_M_pairs_0 rfl rfl ?_
  refine g_iload_n C d_M_pairs_1 rfl rfl ?_
  refine g_iload_n C d_M_pairs_2 rfl rfl ?_
  refine g_runI (wY_fix a ki kz kl kq) rfl (rn_V C (m_M_areTwo hu hv hG.1) 0 2 wY_0 rfl rfl kc_M_areTwo k_M_91 ki_M_areTwo kx_M_areTwo kn_M hy_M_areTwo ⟨rfl, rfl⟩ ⟨by decide, by decide⟩ ⟨Nat.le_refl _, Nat.le_refl _⟩ rfl rfl (Nat.le_of_ble_eq_true rfl) d_M_pairs_3) (fun r1 S1 hp1 => ?_)
  obtain ⟨hS1, hp1⟩ := hp1
  refine GG.at hS1 ?_
  refine g_if_ne (tgt := 12) C d_M_pairs_6 (by decide) rfl (by omega) (fun h6 => ?_) (fun h6 => ?_)
  · refine g_aload_n C d_M_pairs_12 rfl rfl ?_
    refine g_iload_n C d_M_pairs_13 rfl rfl ?_
    refine g_iload_n C d_M_pairs_14 rfl rfl ?_
    refine g_runV (wY_fix a ki kz kl kq) rfl (rn_V C (m_M_find hG (by omega)) 0 2 wY_0 rfl rfl kc_M_find k_M_122 ki_M_find kx_M_find kn_M hy_M_find ⟨rfl, rfl⟩ ⟨by decide, by decide⟩ ⟨Nat.le_refl _, Nat.le_refl _⟩ rfl rfl (Nat.le_of_ble_eq_true rfl) d_M_pairs_15) (fun S3 hp3 => ?_)
    have hl58 : (spS S u v).length ≤ 1458 := sp_len hG.2.2 (a := u) (b := v) (by have := hG.1; omega) (by have := hG.1; omega)
    have hFD : FD S S3 u v := hp3
    refine g_aload_n C d_M_pairs_18 rfl rfl ?_
    refine g_iconst (z := 0) C d_M_pairs_19 rfl rfl ?_
    refine g_put (ty := .int) C 0 19 ty_M i_M ty_M_ok n_M wY_0 rfl (by decide) k_M_80 rfl rfl (by decide +kernel) rfl rfl (Nat.le_of_ble_eq_true rfl) wY_p0_19 d_M_pairs_20 rfl ?_
    refine g_iconst (z := 0) C d_M_pairs_23 rfl rfl ?_
    refine g_nm (fun i0 e_i0 => ?_)
    refine g_istore_n (lv' := [(3, .int (iI i0)), (0, .ref (a 0)), (1, .int (iI u)), (2, .int (iI v))]) C d_M_pairs_24 (by decide) rfl rfl ?_
    subst e_i0
    have hXF := XP_FD hG (by omega) (by omega) hFD
    refine lo_M_pairs hG (by omega) hXF.2 C hr hk _ 0 _ [] (by omega) (Nat.le_add_left _ _) (eqx_us (eqx_mono hFD.1 (by decide)) (by decide)) ?_ gnt_0 PBY_nil (fun q hq => by cases hq)
    have h9 := hXF.1
    unfold XP at h9 ⊢
    rw [us_n (by decide), us_n (by decide), us_n (by decide)]
    exact h9
  · refine g_bipush (z := (-2)) C d_M_pairs_9 rfl (by decide) ?_
    refine g_iret C hr hk d_M_pairs_11 ⟨_, rfl, ?_⟩
    exact Or.inl ⟨by omega, rfl, rfl⟩

