/-! the reference: its small methods -/
/-- the graph's numbers -/
def GJ (S : Nat → Int → Int) : Prop := (0 ≤ S 0 0 ∧ S 0 0 ≤ 8) ∧ (0 ≤ S 1 0 ∧ S 1 0 ≤ 20) ∧ gok (S 1 0).toNat (S 0 0).toNat (S 2) (S 3) (S 4) (S 5) (S 6)
theorem land_ok {z : Int} (h0 : 0 ≤ z) (h1 : z < 4611686018427387904) : lI z &&& lI 31 = lI (z % 32) := by
  rw [lN_lI h0, lN_lI (z := 31) (by omega), bl_and (by omega) (by decide)]
  rw [lN_lI (z := z % 32) (by omega)]
  congr 1
  show z.toNat &&& (2 ^ 5 - 1) = _
  rw [Nat.and_two_pow_sub_one_eq_mod]
  omega

theorem rw_a {P : List Int} (h : ok5 P) : 0 ≤ rw_ P ∧ rw_ P < 34359738368 ∧ ∀ i : Nat, i < P.length → rw_ P / 2 ^ (5 * ((P.length : Int) - 1 - i)).toNat % 32 = P.getD i 0 := by
  obtain ⟨hl, hk⟩ := h
  match P, hl, hk with
  | [], _, _ => exact ⟨by simp [rw_], by simp [rw_], fun i hi => by simp at hi⟩
  | [a], _, hk =>
    have := hk a (by simp)
    refine ⟨by simp [rw_]; omega, by simp [rw_]; omega, ?_⟩
    intro i hi
    match i, hi with
    | 0, _ => simp [rw_]; omega
    | i + 1, hi => (exfalso; simp only [List.length_cons, List.length_nil] at hi; omega)
  | [a, b], _, hk =>
    have := hk a (by simp); have := hk b (by simp)
    refine ⟨by simp [rw_]; omega, by simp [rw_]; omega, ?_⟩
    intro i hi
    match i, hi with
    | 0, _ => simp [rw_]; omega
    | 1, _ => simp [rw_]; omega
    | i + 2, hi => (exfalso; simp only [List.length_cons, List.length_nil] at hi; omega)
  | [a, b, c], _, hk =>
    have := hk a (by simp); have := hk b (by simp); have := hk c (by simp)
    refine ⟨by simp [rw_]; omega, by simp [rw_]; omega, ?_⟩
    intro i hi
    match i, hi with
    | 0, _ => simp [rw_]; omega
    | 1, _ => simp [rw_]; omega
    | 2, _ => simp [rw_]; omega
    | i + 3, hi => (exfalso; simp only [List.length_cons, List.length_nil] at hi; omega)
  | [a, b, c, d], _, hk =>
    have := hk a (by simp); have := hk b (by simp); have := hk c (by simp); have := hk d (by simp)
    refine ⟨by simp [rw_]; omega, by simp [rw_]; omega, ?_⟩
    intro i hi
    match i, hi with
    | 0, _ => simp [rw_]; omega
    | 1, _ => simp [rw_]; omega
    | 2, _ => simp [rw_]; omega
    | 3, _ => simp [rw_]; omega
    | i + 4, hi => (exfalso; simp only [List.length_cons, List.length_nil] at hi; omega)
  | [a, b, c, d, e], _, hk =>
    have := hk a (by simp); have := hk b (by simp); have := hk c (by simp); have := hk d (by simp); have := hk e (by simp)
    refine ⟨by simp [rw_]; omega, by simp [rw_]; omega, ?_⟩
    intro i hi
    match i, hi with
    | 0, _ => simp [rw_]; omega
    | 1, _ => simp [rw_]; omega
    | 2, _ => simp [rw_]; omega
    | 3, _ => simp [rw_]; omega
    | 4, _ => simp [rw_]; omega
    | i + 5, hi => (exfalso; simp only [List.length_cons, List.length_nil] at hi; omega)
  | [a, b, c, d, e, f], _, hk =>
    have := hk a (by simp); have := hk b (by simp); have := hk c (by simp); have := hk d (by simp); have := hk e (by simp); have := hk f (by simp)
    refine ⟨by simp [rw_]; omega, by simp [rw_]; omega, ?_⟩
    intro i hi
    match i, hi with
    | 0, _ => simp [rw_]; omega
    | 1, _ => simp [rw_]; omega
    | 2, _ => simp [rw_]; omega
    | 3, _ => simp [rw_]; omega
    | 4, _ => simp [rw_]; omega
    | 5, _ => simp [rw_]; omega
    | i + 6, hi => (exfalso; simp only [List.length_cons, List.length_nil] at hi; omega)
  | [a, b, c, d, e, f, g], _, hk =>
    have := hk a (by simp); have := hk b (by simp); have := hk c (by simp); have := hk d (by simp); have := hk e (by simp); have := hk f (by simp); have := hk g (by simp)
    refine ⟨by simp [rw_]; omega, by simp [rw_]; omega, ?_⟩
    intro i hi
    match i, hi with
    | 0, _ => simp [rw_]; omega
    | 1, _ => simp [rw_]; omega
    | 2, _ => simp [rw_]; omega
    | 3, _ => simp [rw_]; omega
    | 4, _ => simp [rw_]; omega
    | 5, _ => simp [rw_]; omega
    | 6, _ => simp [rw_]; omega
    | i + 7, hi => (exfalso; simp only [List.length_cons, List.length_nil] at hi; omega)
  | a :: b :: c :: d :: e :: f :: g :: x :: y, hl, _ => simp only [List.length_cons] at hl; omega

set_option maxRecDepth 100000 in
set_option maxHeartbeats 4000000 in
theorem m_M_isIn {l : Launch} {D : va_G} {a : Nat → Nat} {ki kz kl kq : ClassId} {S : Nat → Int → Int} {z lo hi : Int} (hz : r32 z) (hl : r32 lo) (hh : r32 hi) : MY l D a ki kz kl kq y_M_isIn b_M_isIn 3 (some .boolean) rm_M_isIn [.int (iI z), .int (iI lo), .int (iI hi)] S (pI fun r S' => S' = S ∧ ((r = 1 ∧ lo ≤ z ∧ z ≤ hi) ∨ (r = 0 ∧ ¬ (lo ≤ z ∧ z ≤ hi)))) := by
  refine MM.go b_M_isIn 3 (some .boolean) "NextPathsModel" [(0, .int (iI z)), (1, .int (iI lo)), (2, .int (iI hi))] (by decide) rfl rfl (Nat.le_of_ble_eq_true rfl) ?_
  intro p e s m args below meth c C hr hk
  refine g_iload_n C d_M_isIn_0 rfl rfl ?_
  refine g_iload_n C d_M_isIn_1 rfl rfl ?_
  refine g_icmp_lt (tgt := 14) C d_M_isIn_2 (by decide) rfl (by omega) (by omega) (fun h2 => ?_) (fun h2 => ?_)
  · refine g_iconst (z := 0) C d_M_isIn_14 rfl rfl ?_
    refine g_zret C hr hk (by omega) d_M_isIn_15 ⟨_, rfl, ?_⟩
    first
      | exact ⟨rfl, Or.inl ⟨rfl, by omega⟩⟩
      | exact ⟨rfl, Or.inr ⟨rfl, by omega⟩⟩
  · refine g_iload_n C d_M_isIn_5 rfl rfl ?_
    refine g_iload_n C d_M_isIn_6 rfl rfl ?_
    refine g_icmp_gt (tgt := 14) C d_M_isIn_7 (by decide) rfl (by omega) (by omega) (fun h7 => ?_) (fun h7 => ?_)
    · refine g_iconst (z := 0) C d_M_isIn_14 rfl rfl ?_
      refine g_zret C hr hk (by omega) d_M_isIn_15 ⟨_, rfl, ?_⟩
      first
        | exact ⟨rfl, Or.inl ⟨rfl, by omega⟩⟩
        | exact ⟨rfl, Or.inr ⟨rfl, by omega⟩⟩
    · refine g_iconst (z := 1) C d_M_isIn_10 rfl rfl ?_
      refine g_goto (tgt := 15) C d_M_isIn_11 (by decide) ?_
      refine g_zret C hr hk (by omega) d_M_isIn_15 ⟨_, rfl, ?_⟩
      first
        | exact ⟨rfl, Or.inl ⟨rfl, by omega⟩⟩
        | exact ⟨rfl, Or.inr ⟨rfl, by omega⟩⟩

set_option maxRecDepth 100000 in
set_option maxHeartbeats 4000000 in
theorem m_M_isNode {l : Launch} {D : va_G} {a : Nat → Nat} {ki kz kl kq : ClassId} {S : Nat → Int → Int} {z : Int} (hz : r32 z) (hn : 0 ≤ S 0 0 ∧ S 0 0 ≤ 8) : MY l D a ki kz kl kq y_M_isNode b_M_isNode 2 (some .boolean) rm_M_isNode [.ref (a 0), .int (iI z)] S (pI fun r S' => S' = S ∧ ((r = 1 ∧ 0 ≤ z ∧ z < S 0 0) ∨ (r = 0 ∧ ¬ (0 ≤ z ∧ z < S 0 0)))) := by
  refine MM.go b_M_isNode 2 (some .boolean) "NextPathsModel" [(0, .ref (a 0)), (1, .int (iI z))] (by decide) rfl rfl (Nat.le_of_ble_eq_true rfl) ?_
  intro p e s m args below meth c C hr hk
  refine g_iload_n C d_M_isNode_0 rfl rfl ?_
  refine g_iconst (z := 0) C d_M_isNode_1 rfl rfl ?_
  refine g_aload_n C d_M_isNode_2 rfl rfl ?_
  refine g_get C 0 0 i_M wY_0 rfl (by decide) k_M_69 rfl rfl d_M_isNode_3 rfl ?_
  refine g_iconst (z := 1) C d_M_isNode_6 rfl rfl ?_
  refine g_isub C d_M_isNode_7 rfl rfl ?_
  refine g_runI (wY_fix a ki kz kl kq) rfl (rn_S C (m_M_isIn hz (by decide) (by omega)) 3 kc_M_isIn k_M_83 ks_M_isIn kn_M hy_M_isIn ⟨rfl, rfl⟩ ⟨by decide, by decide⟩ ⟨Nat.le_refl _, Nat.le_refl _⟩ rfl rfl (Nat.le_of_ble_eq_true rfl) d_M_isNode_8) (fun r1 S1 hp1 => ?_)
  obtain ⟨hS1, hp1⟩ := hp1
  refine GG.at hS1 ?_
  refine g_zret C hr hk (by omega) d_M_isNode_11 ⟨_, rfl, ?_⟩
  exact ⟨rfl, by omega⟩

set_option maxRecDepth 100000 in
set_option maxHeartbeats 4000000 in
theorem m_M_isArc {l : Launch} {D : va_G} {a : Nat → Nat} {ki kz kl kq : ClassId} {S : Nat → Int → Int} {z : Int} (hz : r32 z) (hn : 0 ≤ S 1 0 ∧ S 1 0 ≤ 20) : MY l D a ki kz kl kq y_M_isArc b_M_isArc 2 (some .boolean) rm_M_isArc [.ref (a 0), .int (iI z)] S (pI fun r S' => S' = S ∧ ((r = 1 ∧ 0 ≤ z ∧ z < S 1 0) ∨ (r = 0 ∧ ¬ (0 ≤ z ∧ z < S 1 0)))) := by
  refine MM.go b_M_isArc 2 (some .boolean) "NextPathsModel" [(0, .ref (a 0)), (1, .int (iI z))] (by decide) rfl rfl (Nat.le_of_ble_eq_true rfl) ?_
  intro p e s m args below meth c C hr hk
  refine g_iload_n C d_M_isArc_0 rfl rfl ?_
  refine g_iconst (z := 0) C d_M_isArc_1 rfl rfl ?_
  refine g_aload_n C d_M_isArc_2 rfl rfl ?_
  refine g_get C 0 1 i_M wY_0 rfl (by decide) k_M_73 rfl rfl d_M_isArc_3 rfl ?_
  refine g_iconst (z := 1) C d_M_isArc_6 rfl rfl ?_
  refine g_isub C d_M_isArc_7 rfl rfl ?_
  refine g_runI (wY_fix a ki kz kl kq) rfl (rn_S C (m_M_isIn hz (by decide) (by omega)) 3 kc_M_isIn k_M_83 ks_M_isIn kn_M hy_M_isIn ⟨rfl, rfl⟩ ⟨by decide, by decide⟩ ⟨Nat.le_refl _, Nat.le_refl _⟩ rfl rfl (Nat.le_of_ble_eq_true rfl) d_M_isArc_8) (fun r1 S1 hp1 => ?_)
  obtain ⟨hS1, hp1⟩ := hp1
  refine GG.at hS1 ?_
  refine g_zret C hr hk (by omega) d_M_isArc_11 ⟨_, rfl, ?_⟩
  exact ⟨rfl, by omega⟩

set_option maxRecDepth 100000 in
set_option maxHeartbeats 4000000 in
theorem m_M_areTwo {l : Launch} {D : va_G} {a : Nat → Nat} {ki kz kl kq : ClassId} {S : Nat → Int → Int} {u v : Int} (hu : r32 u) (hv : r32 v) (hn : 0 ≤ S 0 0 ∧ S 0 0 ≤ 8) : MY l D a ki kz kl kq y_M_areTwo b_M_areTwo 3 (some .boolean) rm_M_areTwo [.ref (a 0), .int (iI u), .int (iI v)] S (pI fun r S' => S' = S ∧ ((r = 1 ∧ twoS S u v) ∨ (r = 0 ∧ ¬ twoS S u v))) := by
  refine MM.go b_M_areTwo 3 (some .boolean) "NextPathsModel" [(0, .ref (a 0)), (1, .int (iI u)), (2, .int (iI v))] (by decide) rfl rfl (Nat.le_of_ble_eq_true rfl) ?_
  intro p e s m args below meth c C hr hk
  refine g_aload_n C d_M_areTwo_0 rfl rfl ?_
  refine g_iload_n C d_M_areTwo_1 rfl rfl ?_
  refine g_runI (wY_fix a ki kz kl kq) rfl (rn_V C (m_M_isNode hu hn) 0 1 wY_0 rfl rfl kc_M_isNode k_M_87 ki_M_isNode kx_M_isNode kn_M hy_M_isNode ⟨rfl, rfl⟩ ⟨by decide, by decide⟩ ⟨Nat.le_refl _, Nat.le_refl _⟩ rfl rfl (Nat.le_of_ble_eq_true rfl) d_M_areTwo_2) (fun r1 S1 hp1 => ?_)
  obtain ⟨hS1, hp1⟩ := hp1
  refine GG.at hS1 ?_
  refine g_if_eq (tgt := 25) C d_M_areTwo_5 (by decide) rfl (by omega) (fun h5 => ?_) (fun h5 => ?_)
  · refine g_iconst (z := 0) C d_M_areTwo_25 rfl rfl ?_
    refine g_zret C hr hk (by omega) d_M_areTwo_26 ⟨_, rfl, ?_⟩
    first
      | exact ⟨rfl, Or.inl ⟨rfl, by omega⟩⟩
      | exact ⟨rfl, Or.inr ⟨rfl, by omega⟩⟩
  · refine g_aload_n C d_M_areTwo_8 rfl rfl ?_
    refine g_iload_n C d_M_areTwo_9 rfl rfl ?_
    refine g_runI (wY_fix a ki kz kl kq) rfl (rn_V C (m_M_isNode hv hn) 0 1 wY_0 rfl rfl kc_M_isNode k_M_87 ki_M_isNode kx_M_isNode kn_M hy_M_isNode ⟨rfl, rfl⟩ ⟨by decide, by decide⟩ ⟨Nat.le_refl _, Nat.le_refl _⟩ rfl rfl (Nat.le_of_ble_eq_true rfl) d_M_areTwo_10) (fun r2 S2 hp2 => ?_)
    obtain ⟨hS2, hp2⟩ := hp2
    refine GG.at hS2 ?_
    refine g_if_eq (tgt := 25) C d_M_areTwo_13 (by decide) rfl (by omega) (fun h13 => ?_) (fun h13 => ?_)
    · refine g_iconst (z := 0) C d_M_areTwo_25 rfl rfl ?_
      refine g_zret C hr hk (by omega) d_M_areTwo_26 ⟨_, rfl, ?_⟩
      first
        | exact ⟨rfl, Or.inl ⟨rfl, by omega⟩⟩
        | exact ⟨rfl, Or.inr ⟨rfl, by omega⟩⟩
    · refine g_iload_n C d_M_areTwo_16 rfl rfl ?_
      refine g_iload_n C d_M_areTwo_17 rfl rfl ?_
      refine g_icmp_eq (tgt := 25) C d_M_areTwo_18 (by decide) rfl (by omega) (by omega) (fun h18 => ?_) (fun h18 => ?_)
      · refine g_iconst (z := 0) C d_M_areTwo_25 rfl rfl ?_
        refine g_zret C hr hk (by omega) d_M_areTwo_26 ⟨_, rfl, ?_⟩
        first
          | exact ⟨rfl, Or.inl ⟨rfl, by omega⟩⟩
          | exact ⟨rfl, Or.inr ⟨rfl, by omega⟩⟩
      · refine g_iconst (z := 1) C d_M_areTwo_21 rfl rfl ?_
        refine g_goto (tgt := 26) C d_M_areTwo_22 (by decide) ?_
        refine g_zret C hr hk (by omega) d_M_areTwo_26 ⟨_, rfl, ?_⟩
        first
          | exact ⟨rfl, Or.inl ⟨rfl, by omega⟩⟩
          | exact ⟨rfl, Or.inr ⟨rfl, by omega⟩⟩

set_option maxRecDepth 100000 in
set_option maxHeartbeats 4000000 in
theorem m_M_clear {l : Launch} {D : va_G} {a : Nat → Nat} {ki kz kl kq : ClassId} {S : Nat → Int → Int}   : MY l D a ki kz kl kq y_M_clear b_M_clear 2 (some .int) rm_M_clear [.ref (a 0)] S (pI fun r S' => r = S 1 0 ∧ S' = us (us (us (us S 0 0 0) 1 0 0) 14 0 0) 19 0 0) := by
  refine MM.go b_M_clear 2 (some .int) "NextPathsModel" [(0, .ref (a 0))] (by decide) rfl rfl (Nat.le_of_ble_eq_true rfl) ?_
  intro p e s m args below meth c C hr hk
  refine g_aload_n C d_M_clear_0 rfl rfl ?_
  refine g_get C 0 1 i_M wY_0 rfl (by decide) k_M_73 rfl rfl d_M_clear_1 rfl ?_
  refine g_nm (fun n e_n => ?_)
  refine g_istore_n (lv' := [(1, .int (iI n)), (0, .ref (a 0))]) C d_M_clear_4 (by decide) rfl rfl ?_
  refine g_aload_n C d_M_clear_5 rfl rfl ?_
  refine g_iconst (z := 0) C d_M_clear_6 rfl rfl ?_
  refine g_put (ty := .int) C 0 0 ty_M i_M ty_M_ok n_M wY_0 rfl (by decide) k_M_69 rfl rfl (by decide +kernel) rfl rfl (Nat.le_of_ble_eq_true rfl) wY_p0_0 d_M_clear_7 rfl ?_
  refine g_aload_n C d_M_clear_10 rfl rfl ?_
  refine g_iconst (z := 0) C d_M_clear_11 rfl rfl ?_
  refine g_put (ty := .int) C 0 1 ty_M i_M ty_M_ok n_M wY_0 rfl (by decide) k_M_73 rfl rfl (by decide +kernel) rfl rfl (Nat.le_of_ble_eq_true rfl) wY_p0_1 d_M_clear_12 rfl ?_
  refine g_aload_n C d_M_clear_15 rfl rfl ?_
  refine g_iconst (z := 0) C d_M_clear_16 rfl rfl ?_
  refine g_put (ty := .boolean) C 0 14 ty_M i_M ty_M_ok n_M wY_0 rfl (by decide) k_M_76 rfl rfl (by decide +kernel) rfl rfl (Nat.le_of_ble_eq_true rfl) wY_p0_14 d_M_clear_17 rfl ?_
  refine g_aload_n C d_M_clear_20 rfl rfl ?_
  refine g_iconst (z := 0) C d_M_clear_21 rfl rfl ?_
  refine g_put (ty := .int) C 0 19 ty_M i_M ty_M_ok n_M wY_0 rfl (by decide) k_M_80 rfl rfl (by decide +kernel) rfl rfl (Nat.le_of_ble_eq_true rfl) wY_p0_19 d_M_clear_22 rfl ?_
  refine g_iload_n C d_M_clear_25 rfl rfl ?_
  refine g_iret C hr hk d_M_clear_26 ⟨_, rfl, ?_⟩
  exact ⟨e_n, rfl⟩

set_option maxRecDepth 100000 in
set_option maxHeartbeats 4000000 in
theorem m_M_node {l : Launch} {D : va_G} {a : Nat → Nat} {ki kz kl kq : ClassId} {S : Nat → Int → Int}  (hn : 0 ≤ S 0 0 ∧ S 0 0 ≤ 8) : MY l D a ki kz kl kq y_M_node b_M_node 1 (some .int) rm_M_node [.ref (a 0)] S (pI fun r S' => (S 0 0 = 8 ∧ r = -3 ∧ S' = S) ∨ (S 0 0 < 8 ∧ r = S 0 0 ∧ S' = us S 0 0 (S 0 0 + 1))) := by
  refine MM.go b_M_node 1 (some .int) "NextPathsModel" [(0, .ref (a 0))] (by decide) rfl rfl (Nat.le_of_ble_eq_true rfl) ?_
  intro p e s m args below meth c C hr hk
  refine g_aload_n C d_M_node_0 rfl rfl ?_
  refine g_get C 0 0 i_M wY_0 rfl (by decide) k_M_69 rfl rfl d_M_node_1 rfl ?_
  refine g_bipush (z := 8) C d_M_node_4 rfl (by decide) ?_
  refine g_icmp_ne (tgt := 12) C d_M_node_6 (by decide) rfl (by omega) (by omega) (fun h6 => ?_) (fun h6 => ?_)
  · refine g_aload_n C d_M_node_12 rfl rfl ?_
    refine g_dup C d_M_node_13 rfl rfl ?_
    refine g_get C 0 0 i_M wY_0 rfl (by decide) k_M_69 rfl rfl d_M_node_14 rfl ?_
    refine g_iconst (z := 1) C d_M_node_17 rfl rfl ?_
    refine g_iadd C d_M_node_18 rfl rfl ?_
    refine g_put (ty := .int) C 0 0 ty_M i_M ty_M_ok n_M wY_0 rfl (by decide) k_M_69 rfl rfl (by decide +kernel) rfl rfl (Nat.le_of_ble_eq_true rfl) wY_p0_0 d_M_node_19 rfl ?_
    refine g_aload_n C d_M_node_22 rfl rfl ?_
    refine g_get C 0 0 i_M wY_0 rfl (by decide) k_M_69 rfl rfl d_M_node_23 rfl ?_
    refine g_v (z' := S 0 0 + 1) (by rw [us_s, up_s]) ?_
    refine g_iconst (z := 1) C d_M_node_26 rfl rfl ?_
    refine g_isub C d_M_node_27 rfl rfl ?_
    refine g_iret C hr hk d_M_node_28 ⟨_, rfl, ?_⟩
    exact Or.inr ⟨by omega, by omega, rfl⟩
  · refine g_bipush (z := (-3)) C d_M_node_9 rfl (by decide) ?_
    refine g_iret C hr hk d_M_node_11 ⟨_, rfl, ?_⟩
    exact Or.inl ⟨by omega, rfl, rfl⟩

/-- an arc more -/
def addB (S : Nat → Int → Int) (u v w1 w2 : Int) : Nat → Int → Int := us (us (us (us (us (us S 2 (S 1 0) u) 3 (S 1 0) v) 4 (S 1 0) w1) 5 (S 1 0) w2) 6 (S 1 0) 0) 1 0 (S 1 0 + 1)

set_option maxRecDepth 100000 in
set_option maxHeartbeats 4000000 in
theorem m_M_arc {l : Launch} {D : va_G} {a : Nat → Nat} {ki kz kl kq : ClassId} {S : Nat → Int → Int} {u v w1 w2 : Int} (hG : GJ S) (hu : r32 u) (hv : r32 v) (h1 : r32 w1) (h2 : r32 w2) : MY l D a ki kz kl kq y_M_arc b_M_arc 5 (some .int) rm_M_arc [.ref (a 0), .int (iI u), .int (iI v), .int (iI w1), .int (iI w2)] S (pI fun r S' => (¬ (twoS S u v ∧ wtS w1 ∧ wtS w2) ∧ r = -2 ∧ S' = S) ∨ ((twoS S u v ∧ wtS w1 ∧ wtS w2) ∧ ((S 1 0 = 20 ∧ r = -3 ∧ S' = S) ∨ (S 1 0 < 20 ∧ r = S 1 0 ∧ S' = addB S u v w1 w2)))) := by
  refine MM.go b_M_arc 5 (some .int) "NextPathsModel" [(0, .ref (a 0)), (1, .int (iI u)), (2, .int (iI v)), (3, .int (iI w1)), (4, .int (iI w2))] (by decide) rfl rfl (Nat.le_of_ble_eq_true rfl) ?_
  intro p e s m args below meth c C hr hk
  have hn20 := hG.2.1
  refine g_aload_n C d_M_arc_0 rfl rfl ?_
  refine g_iload_n C d_M_arc_1 rfl rfl ?_
  refine g_iload_n C d_M_arc_2 rfl rfl ?_
  refine g_runI (wY_fix a ki kz kl kq) rfl (rn_V C (m_M_areTwo hu hv hG.1) 0 2 wY_0 rfl rfl kc_M_areTwo k_M_91 ki_M_areTwo kx_M_areTwo kn_M hy_M_areTwo ⟨rfl, rfl⟩ ⟨by decide, by decide⟩ ⟨Nat.le_refl _, Nat.le_refl _⟩ rfl rfl (Nat.le_of_ble_eq_true rfl) d_M_arc_3) (fun r1 S1 hp1 => ?_)
  obtain ⟨hS1, hp1⟩ := hp1
  refine GG.at hS1 ?_
  refine g_if_eq (tgt := 32) C d_M_arc_6 (by decide) rfl (by omega) (fun h6 => ?_) (fun h6 => ?_)
  · refine g_bipush (z := (-2)) C d_M_arc_32 rfl (by decide) ?_
    refine g_iret C hr hk d_M_arc_34 ⟨_, rfl, ?_⟩
    exact Or.inl ⟨by omega, rfl, rfl⟩
  · refine g_iload_n C d_M_arc_9 rfl rfl ?_
    refine g_iconst (z := 0) C d_M_arc_10 rfl rfl ?_
    refine g_sipush (z := 1000) C d_M_arc_11 rfl (by decide) ?_
    refine g_runI (wY_fix a ki kz kl kq) rfl (rn_S C (m_M_isIn h1 (by decide) (by decide)) 3 kc_M_isIn k_M_83 ks_M_isIn kn_M hy_M_isIn ⟨rfl, rfl⟩ ⟨by decide, by decide⟩ ⟨Nat.le_refl _, Nat.le_refl _⟩ rfl rfl (Nat.le_of_ble_eq_true rfl) d_M_arc_14) (fun r2 S2 hp2 => ?_)
    obtain ⟨hS2, hp2⟩ := hp2
    refine GG.at hS2 ?_
    refine g_if_eq (tgt := 32) C d_M_arc_17 (by decide) rfl (by omega) (fun h17 => ?_) (fun h17 => ?_)
    · refine g_bipush (z := (-2)) C d_M_arc_32 rfl (by decide) ?_
      refine g_iret C hr hk d_M_arc_34 ⟨_, rfl, ?_⟩
      exact Or.inl ⟨by omega, rfl, rfl⟩
    · refine g_iload C d_M_arc_20 rfl rfl ?_
      refine g_iconst (z := 0) C d_M_arc_22 rfl rfl ?_
      refine g_sipush (z := 1000) C d_M_arc_23 rfl (by decide) ?_
      refine g_runI (wY_fix a ki kz kl kq) rfl (rn_S C (m_M_isIn h2 (by decide) (by decide)) 3 kc_M_isIn k_M_83 ks_M_isIn kn_M hy_M_isIn ⟨rfl, rfl⟩ ⟨by decide, by decide⟩ ⟨Nat.le_refl _, Nat.le_refl _⟩ rfl rfl (Nat.le_of_ble_eq_true rfl) d_M_arc_26) (fun r3 S3 hp3 => ?_)
      obtain ⟨hS3, hp3⟩ := hp3
      refine GG.at hS3 ?_
      refine g_if_ne (tgt := 35) C d_M_arc_29 (by decide) rfl (by omega) (fun h29 => ?_) (fun h29 => ?_)
      · refine g_aload_n C d_M_arc_35 rfl rfl ?_
        refine g_get C 0 1 i_M wY_0 rfl (by decide) k_M_73 rfl rfl d_M_arc_36 rfl ?_
        refine g_bipush (z := 20) C d_M_arc_39 rfl (by decide) ?_
        refine g_icmp_ne (tgt := 47) C d_M_arc_41 (by decide) rfl (by omega) (by omega) (fun h41 => ?_) (fun h41 => ?_)
        · refine g_aload_n C d_M_arc_47 rfl rfl ?_
          refine g_get C 0 2 i_M wY_0 rfl (by decide) k_M_7 rfl rfl d_M_arc_48 rfl ?_
          refine g_aload_n C d_M_arc_51 rfl rfl ?_
          refine g_get C 0 1 i_M wY_0 rfl (by decide) k_M_73 rfl rfl d_M_arc_52 rfl ?_
          refine g_v (z' := S 1 0) rfl ?_
          refine g_iload_n C d_M_arc_55 rfl rfl ?_
          refine g_iast C 1 0 wY_1 rfl (by omega) (by omega) (by decide) wY_s1 d_M_arc_56 rfl ?_
          refine g_aload_n C d_M_arc_57 rfl rfl ?_
          refine g_get C 0 3 i_M wY_0 rfl (by decide) k_M_13 rfl rfl d_M_arc_58 rfl ?_
          refine g_aload_n C d_M_arc_61 rfl rfl ?_
          refine g_get C 0 1 i_M wY_0 rfl (by decide) k_M_73 rfl rfl d_M_arc_62 rfl ?_
          refine g_v (z' := S 1 0) rfl ?_
          refine g_iload_n C d_M_arc_65 rfl rfl ?_
          refine g_iast C 2 0 wY_2 rfl (by omega) (by omega) (by decide) wY_s2 d_M_arc_66 rfl ?_
          refine g_aload_n C d_M_arc_67 rfl rfl ?_
          refine g_get C 0 4 i_M wY_0 rfl (by decide) k_M_16 rfl rfl d_M_arc_68 rfl ?_
          refine g_aload_n C d_M_arc_71 rfl rfl ?_
          refine g_get C 0 1 i_M wY_0 rfl (by decide) k_M_73 rfl rfl d_M_arc_72 rfl ?_
          refine g_v (z' := S 1 0) rfl ?_
          refine g_iload_n C d_M_arc_75 rfl rfl ?_
          refine g_iast C 3 0 wY_3 rfl (by omega) (by omega) (by decide) wY_s3 d_M_arc_76 rfl ?_
          refine g_aload_n C d_M_arc_77 rfl rfl ?_
          refine g_get C 0 5 i_M wY_0 rfl (by decide) k_M_19 rfl rfl d_M_arc_78 rfl ?_
          refine g_aload_n C d_M_arc_81 rfl rfl ?_
          refine g_get C 0 1 i_M wY_0 rfl (by decide) k_M_73 rfl rfl d_M_arc_82 rfl ?_
          refine g_v (z' := S 1 0) rfl ?_
          refine g_iload C d_M_arc_85 rfl rfl ?_
          refine g_iast C 4 0 wY_4 rfl (by omega) (by omega) (by decide) wY_s4 d_M_arc_87 rfl ?_
          refine g_aload_n C d_M_arc_88 rfl rfl ?_
          refine g_get C 0 6 i_M wY_0 rfl (by decide) k_M_22 rfl rfl d_M_arc_89 rfl ?_
          refine g_aload_n C d_M_arc_92 rfl rfl ?_
          refine g_get C 0 1 i_M wY_0 rfl (by decide) k_M_73 rfl rfl d_M_arc_93 rfl ?_
          refine g_v (z' := S 1 0) rfl ?_
          refine g_iconst (z := 0) C d_M_arc_96 rfl rfl ?_
          refine g_zast C 5 1 wY_5 rfl (by omega) (by omega) (by decide) (by omega) wY_s5 d_M_arc_97 rfl ?_
          refine g_aload_n C d_M_arc_98 rfl rfl ?_
          refine g_dup C d_M_arc_99 rfl rfl ?_
          refine g_get C 0 1 i_M wY_0 rfl (by decide) k_M_73 rfl rfl d_M_arc_100 rfl ?_
          refine g_v (z' := S 1 0) rfl ?_
          refine g_iconst (z := 1) C d_M_arc_103 rfl rfl ?_
          refine g_iadd C d_M_arc_104 rfl rfl ?_
          refine g_put (ty := .int) C 0 1 ty_M i_M ty_M_ok n_M wY_0 rfl (by decide) k_M_73 rfl rfl (by decide +kernel) rfl rfl (Nat.le_of_ble_eq_true rfl) wY_p0_1 d_M_arc_105 rfl ?_
          refine g_aload_n C d_M_arc_108 rfl rfl ?_
          refine g_get C 0 1 i_M wY_0 rfl (by decide) k_M_73 rfl rfl d_M_arc_109 rfl ?_
          refine g_v (z' := S 1 0 + 1) rfl ?_
          refine g_iconst (z := 1) C d_M_arc_112 rfl rfl ?_
          refine g_isub C d_M_arc_113 rfl rfl ?_
          refine g_iret C hr hk d_M_arc_114 ⟨_, rfl, ?_⟩
          exact Or.inr ⟨by omega, Or.inr ⟨by omega, by omega, rfl⟩⟩
        · refine g_bipush (z := (-3)) C d_M_arc_44 rfl (by decide) ?_
          refine g_iret C hr hk d_M_arc_46 ⟨_, rfl, ?_⟩
          exact Or.inr ⟨by omega, Or.inl ⟨by omega, rfl, rfl⟩⟩
      · refine g_bipush (z := (-2)) C d_M_arc_32 rfl (by decide) ?_
        refine g_iret C hr hk d_M_arc_34 ⟨_, rfl, ?_⟩
        exact Or.inl ⟨by omega, rfl, rfl⟩

set_option maxRecDepth 100000 in
set_option maxHeartbeats 4000000 in
theorem m_M_change {l : Launch} {D : va_G} {a : Nat → Nat} {ki kz kl kq : ClassId} {S : Nat → Int → Int} {k w1 w2 : Int} (hG : GJ S) (hk0 : r32 k) (h1 : r32 w1) (h2 : r32 w2) : MY l D a ki kz kl kq y_M_change b_M_change 5 (some .int) rm_M_change [.ref (a 0), .int (iI k), .int (iI w1), .int (iI w2)] S (pI fun r S' => (¬ ((0 ≤ k ∧ k < S 1 0) ∧ wtS w1 ∧ wtS w2) ∧ r = -2 ∧ S' = S) ∨ (((0 ≤ k ∧ k < S 1 0) ∧ wtS w1 ∧ wtS w2) ∧ r = S 4 k ∧ S' = us (us S 4 k w1) 5 k w2)) := by
  refine MM.go b_M_change 5 (some .int) "NextPathsModel" [(0, .ref (a 0)), (1, .int (iI k)), (2, .int (iI w1)), (3, .int (iI w2))] (by decide) rfl rfl (Nat.le_of_ble_eq_true rfl) ?_
  intro p e s m args below meth c C hr hk
  have hn20 := hG.2.1
  refine g_aload_n C d_M_change_0 rfl rfl ?_
  refine g_iload_n C d_M_change_1 rfl rfl ?_
  refine g_runI (wY_fix a ki kz kl kq) rfl (rn_V C (m_M_isArc hk0 hG.2.1) 0 1 wY_0 rfl rfl kc_M_isArc k_M_95 ki_M_isArc kx_M_isArc kn_M hy_M_isArc ⟨rfl, rfl⟩ ⟨by decide, by decide⟩ ⟨Nat.le_refl _, Nat.le_refl _⟩ rfl rfl (Nat.le_of_ble_eq_true rfl) d_M_change_2) (fun r1 S1 hp1 => ?_)
  obtain ⟨hS1, hp1⟩ := hp1
  refine GG.at hS1 ?_
  refine g_if_eq (tgt := 30) C d_M_change_5 (by decide) rfl (by omega) (fun h5 => ?_) (fun h5 => ?_)
  · refine g_bipush (z := (-2)) C d_M_change_30 rfl (by decide) ?_
    refine g_iret C hr hk d_M_change_32 ⟨_, rfl, ?_⟩
    exact Or.inl ⟨by omega, rfl, rfl⟩
  · refine g_iload_n C d_M_change_8 rfl rfl ?_
    refine g_iconst (z := 0) C d_M_change_9 rfl rfl ?_
    refine g_sipush (z := 1000) C d_M_change_10 rfl (by decide) ?_
    refine g_runI (wY_fix a ki kz kl kq) rfl (rn_S C (m_M_isIn h1 (by decide) (by decide)) 3 kc_M_isIn k_M_83 ks_M_isIn kn_M hy_M_isIn ⟨rfl, rfl⟩ ⟨by decide, by decide⟩ ⟨Nat.le_refl _, Nat.le_refl _⟩ rfl rfl (Nat.le_of_ble_eq_true rfl) d_M_change_13) (fun r2 S2 hp2 => ?_)
    obtain ⟨hS2, hp2⟩ := hp2
    refine GG.at hS2 ?_
    refine g_if_eq (tgt := 30) C d_M_change_16 (by decide) rfl (by omega) (fun h16 => ?_) (fun h16 => ?_)
    · refine g_bipush (z := (-2)) C d_M_change_30 rfl (by decide) ?_
      refine g_iret C hr hk d_M_change_32 ⟨_, rfl, ?_⟩
      exact Or.inl ⟨by omega, rfl, rfl⟩
    · refine g_iload_n C d_M_change_19 rfl rfl ?_
      refine g_iconst (z := 0) C d_M_change_20 rfl rfl ?_
      refine g_sipush (z := 1000) C d_M_change_21 rfl (by decide) ?_
      refine g_runI (wY_fix a ki kz kl kq) rfl (rn_S C (m_M_isIn h2 (by decide) (by decide)) 3 kc_M_isIn k_M_83 ks_M_isIn kn_M hy_M_isIn ⟨rfl, rfl⟩ ⟨by decide, by decide⟩ ⟨Nat.le_refl _, Nat.le_refl _⟩ rfl rfl (Nat.le_of_ble_eq_true rfl) d_M_change_24) (fun r3 S3 hp3 => ?_)
      obtain ⟨hS3, hp3⟩ := hp3
      refine GG.at hS3 ?_
      refine g_if_ne (tgt := 33) C d_M_change_27 (by decide) rfl (by omega) (fun h27 => ?_) (fun h27 => ?_)
      · refine g_aload_n C d_M_change_33 rfl rfl ?_
        refine g_get C 0 4 i_M wY_0 rfl (by decide) k_M_16 rfl rfl d_M_change_34 rfl ?_
        refine g_iload_n C d_M_change_37 rfl rfl ?_
        refine g_iald C 3 0 wY_3 rfl (by omega) (by omega) (by decide) d_M_change_38 rfl ?_
        refine g_nm (fun ol e_ol => ?_)
        refine g_istore (lv' := [(4, .int (iI ol)), (0, .ref (a 0)), (1, .int (iI k)), (2, .int (iI w1)), (3, .int (iI w2))]) C d_M_change_39 (by decide) rfl rfl ?_
        refine g_aload_n C d_M_change_41 rfl rfl ?_
        refine g_get C 0 4 i_M wY_0 rfl (by decide) k_M_16 rfl rfl d_M_change_42 rfl ?_
        refine g_iload_n C d_M_change_45 rfl rfl ?_
        refine g_iload_n C d_M_change_46 rfl rfl ?_
        refine g_iast C 3 0 wY_3 rfl (by omega) (by omega) (by decide) wY_s3 d_M_change_47 rfl ?_
        refine g_aload_n C d_M_change_48 rfl rfl ?_
        refine g_get C 0 5 i_M wY_0 rfl (by decide) k_M_19 rfl rfl d_M_change_49 rfl ?_
        refine g_iload_n C d_M_change_52 rfl rfl ?_
        refine g_iload_n C d_M_change_53 rfl rfl ?_
        refine g_iast C 4 0 wY_4 rfl (by omega) (by omega) (by decide) wY_s4 d_M_change_54 rfl ?_
        refine g_iload C d_M_change_55 rfl rfl ?_
        refine g_iret C hr hk d_M_change_57 ⟨_, rfl, ?_⟩
        exact Or.inr ⟨by omega, e_ol, rfl⟩
      · refine g_bipush (z := (-2)) C d_M_change_30 rfl (by decide) ?_
        refine g_iret C hr hk d_M_change_32 ⟨_, rfl, ?_⟩
        exact Or.inl ⟨by omega, rfl, rfl⟩

set_option maxRecDepth 100000 in
set_option maxHeartbeats 4000000 in
theorem m_M_shut {l : Launch} {D : va_G} {a : Nat → Nat} {ki kz kl kq : ClassId} {S : Nat → Int → Int} {k v : Int} (hG : GJ S) (hk0 : r32 k) (hv : v = 0 ∨ v = 1) : MY l D a ki kz kl kq y_M_shut b_M_shut 4 (some .int) rm_M_shut [.ref (a 0), .int (iI k), .int (iI v)] S (pI fun r S' => (¬ (0 ≤ k ∧ k < S 1 0) ∧ r = -2 ∧ S' = S) ∨ ((0 ≤ k ∧ k < S 1 0) ∧ r = S 6 k ∧ S' = us S 6 k v)) := by
  refine MM.go b_M_shut 4 (some .int) "NextPathsModel" [(0, .ref (a 0)), (1, .int (iI k)), (2, .int (iI v))] (by decide) rfl rfl (Nat.le_of_ble_eq_true rfl) ?_
  intro p e s m args below meth c C hr hk
  have hn20 := hG.2.1
  have h01 := (hG.2.2.2.2.1 k).2.2.2.2.2.2.2.2
  refine g_aload_n C d_M_shut_0 rfl rfl ?_
  refine g_iload_n C d_M_shut_1 rfl rfl ?_
  refine g_runI (wY_fix a ki kz kl kq) rfl (rn_V C (m_M_isArc hk0 hG.2.1) 0 1 wY_0 rfl rfl kc_M_isArc k_M_95 ki_M_isArc kx_M_isArc kn_M hy_M_isArc ⟨rfl, rfl⟩ ⟨by decide, by decide⟩ ⟨Nat.le_refl _, Nat.le_refl _⟩ rfl rfl (Nat.le_of_ble_eq_true rfl) d_M_shut_2) (fun r1 S1 hp1 => ?_)
  obtain ⟨hS1, hp1⟩ := hp1
  refine GG.at hS1 ?_
  refine g_if_ne (tgt := 11) C d_M_shut_5 (by decide) rfl (by omega) (fun h5 => ?_) (fun h5 => ?_)
  · refine g_aload_n C d_M_shut_11 rfl rfl ?_
    refine g_get C 0 6 i_M wY_0 rfl (by decide) k_M_22 rfl rfl d_M_shut_12 rfl ?_
    refine g_iload_n C d_M_shut_15 rfl rfl ?_
    refine g_zald C 5 1 wY_5 rfl (by omega) (by omega) (by decide) d_M_shut_16 rfl ?_
    refine g_if_eq (tgt := 24) C d_M_shut_17 (by decide) rfl (by omega) (fun h17 => ?_) (fun h17 => ?_)
    · refine g_iconst (z := 0) C d_M_shut_24 rfl rfl ?_
      refine g_nm (fun ol e_ol => ?_)
      refine g_istore_n (lv' := [(3, .int (iI ol)), (0, .ref (a 0)), (1, .int (iI k)), (2, .int (iI v))]) C d_M_shut_25 (by decide) rfl rfl ?_
      refine g_aload_n C d_M_shut_26 rfl rfl ?_
      refine g_get C 0 6 i_M wY_0 rfl (by decide) k_M_22 rfl rfl d_M_shut_27 rfl ?_
      refine g_iload_n C d_M_shut_30 rfl rfl ?_
      refine g_iload_n C d_M_shut_31 rfl rfl ?_
      refine g_zast C 5 1 wY_5 rfl (by omega) (by omega) (by decide) (by omega) wY_s5 d_M_shut_32 rfl ?_
      refine g_iload_n C d_M_shut_33 rfl rfl ?_
      refine g_iret C hr hk d_M_shut_34 ⟨_, rfl, ?_⟩
      exact Or.inr ⟨by omega, by omega, rfl⟩
    · refine g_iconst (z := 1) C d_M_shut_20 rfl rfl ?_
      refine g_goto (tgt := 25) C d_M_shut_21 (by decide) ?_
      refine g_nm (fun ol e_ol => ?_)
      refine g_istore_n (lv' := [(3, .int (iI ol)), (0, .ref (a 0)), (1, .int (iI k)), (2, .int (iI v))]) C d_M_shut_25 (by decide) rfl rfl ?_
      refine g_aload_n C d_M_shut_26 rfl rfl ?_
      refine g_get C 0 6 i_M wY_0 rfl (by decide) k_M_22 rfl rfl d_M_shut_27 rfl ?_
      refine g_iload_n C d_M_shut_30 rfl rfl ?_
      refine g_iload_n C d_M_shut_31 rfl rfl ?_
      refine g_zast C 5 1 wY_5 rfl (by omega) (by omega) (by decide) (by omega) wY_s5 d_M_shut_32 rfl ?_
      refine g_iload_n C d_M_shut_33 rfl rfl ?_
      refine g_iret C hr hk d_M_shut_34 ⟨_, rfl, ?_⟩
      exact Or.inr ⟨by omega, by omega, rfl⟩
  · refine g_bipush (z := (-2)) C d_M_shut_8 rfl (by decide) ?_
    refine g_iret C hr hk d_M_shut_10 ⟨_, rfl, ?_⟩
    exact Or.inl ⟨by omega, rfl, rfl⟩

set_option maxRecDepth 100000 in
set_option maxHeartbeats 4000000 in
theorem m_M_pair {l : Launch} {D : va_G} {a : Nat → Nat} {ki kz kl kq : ClassId} {S : Nat → Int → Int} {i w : Int} (h19 : 0 ≤ S 19 0 ∧ S 19 0 ≤ 4000) (hi : r32 i) (hw : r32 w) : MY l D a ki kz kl kq y_M_pair b_M_pair 3 (some .int) rm_M_pair [.ref (a 0), .int (iI i), .int (iI w)] S (pI fun r S' => S' = S ∧ (((0 ≤ i ∧ i < S 19 0) ∧ w = 0 ∧ r = S 20 i) ∨ ((0 ≤ i ∧ i < S 19 0) ∧ w = 1 ∧ r = S 21 i) ∨ (¬ ((0 ≤ i ∧ i < S 19 0) ∧ (w = 0 ∨ w = 1)) ∧ r = -2))) := by
  refine MM.go b_M_pair 3 (some .int) "NextPathsModel" [(0, .ref (a 0)), (1, .int (iI i)), (2, .int (iI w))] (by decide) rfl rfl (Nat.le_of_ble_eq_true rfl) ?_
  intro p e s m args below meth c C hr hk
  refine g_iload_n C d_M_pair_0 rfl rfl ?_
  refine g_iconst (z := 0) C d_M_pair_1 rfl rfl ?_
  refine g_aload_n C d_M_pair_2 rfl rfl ?_
  refine g_get C 0 19 i_M wY_0 rfl (by decide) k_M_80 rfl rfl d_M_pair_3 rfl ?_
  refine g_iconst (z := 1) C d_M_pair_6 rfl rfl ?_
  refine g_isub C d_M_pair_7 rfl rfl ?_
  refine g_runI (wY_fix a ki kz kl kq) rfl (rn_S C (m_M_isIn hi (by decide) (by omega)) 3 kc_M_isIn k_M_83 ks_M_isIn kn_M hy_M_isIn ⟨rfl, rfl⟩ ⟨by decide, by decide⟩ ⟨Nat.le_refl _, Nat.le_refl _⟩ rfl rfl (Nat.le_of_ble_eq_true rfl) d_M_pair_8) (fun r1 S1 hp1 => ?_)
  obtain ⟨hS1, hp1⟩ := hp1
  refine GG.at hS1 ?_
  refine g_if_eq (tgt := 23) C d_M_pair_11 (by decide) rfl (by omega) (fun h11 => ?_) (fun h11 => ?_)
  · refine g_bipush (z := (-2)) C d_M_pair_23 rfl (by decide) ?_
    refine g_iret C hr hk d_M_pair_25 ⟨_, rfl, ?_⟩
    exact ⟨rfl, Or.inr (Or.inr ⟨by omega, rfl⟩)⟩
  · refine g_iload_n C d_M_pair_14 rfl rfl ?_
    refine g_iconst (z := 0) C d_M_pair_15 rfl rfl ?_
    refine g_iconst (z := 1) C d_M_pair_16 rfl rfl ?_
    refine g_runI (wY_fix a ki kz kl kq) rfl (rn_S C (m_M_isIn hw (by decide) (by decide)) 3 kc_M_isIn k_M_83 ks_M_isIn kn_M hy_M_isIn ⟨rfl, rfl⟩ ⟨by decide, by decide⟩ ⟨Nat.le_refl _, Nat.le_refl _⟩ rfl rfl (Nat.le_of_ble_eq_true rfl) d_M_pair_17) (fun r2 S2 hp2 => ?_)
    obtain ⟨hS2, hp2⟩ := hp2
    refine GG.at hS2 ?_
    refine g_if_ne (tgt := 26) C d_M_pair_20 (by decide) rfl (by omega) (fun h20 => ?_) (fun h20 => ?_)
    · refine g_iload_n C d_M_pair_26 rfl rfl ?_
      refine g_if_ne (tgt := 39) C d_M_pair_27 (by decide) rfl (by omega) (fun h27 => ?_) (fun h27 => ?_)
      · refine g_aload_n C d_M_pair_39 rfl rfl ?_
        refine g_get C 0 21 i_M wY_0 rfl (by decide) k_M_48 rfl rfl d_M_pair_40 rfl ?_
        refine g_iload_n C d_M_pair_43 rfl rfl ?_
        refine g_iald C 13 0 wY_13 rfl (by omega) (by omega) (by decide) d_M_pair_44 rfl ?_
        refine g_iret C hr hk d_M_pair_45 ⟨_, rfl, ?_⟩
        first
          | exact ⟨rfl, Or.inl ⟨by omega, by omega, rfl⟩⟩
          | exact ⟨rfl, Or.inr (Or.inl ⟨by omega, by omega, rfl⟩)⟩
      · refine g_aload_n C d_M_pair_30 rfl rfl ?_
        refine g_get C 0 20 i_M wY_0 rfl (by decide) k_M_45 rfl rfl d_M_pair_31 rfl ?_
        refine g_iload_n C d_M_pair_34 rfl rfl ?_
        refine g_iald C 12 0 wY_12 rfl (by omega) (by omega) (by decide) d_M_pair_35 rfl ?_
        refine g_goto (tgt := 45) C d_M_pair_36 (by decide) ?_
        refine g_iret C hr hk d_M_pair_45 ⟨_, rfl, ?_⟩
        first
          | exact ⟨rfl, Or.inl ⟨by omega, by omega, rfl⟩⟩
          | exact ⟨rfl, Or.inr (Or.inl ⟨by omega, by omega, rfl⟩)⟩
    · refine g_bipush (z := (-2)) C d_M_pair_23 rfl (by decide) ?_
      refine g_iret C hr hk d_M_pair_25 ⟨_, rfl, ?_⟩
      exact ⟨rfl, Or.inr (Or.inr ⟨by omega, rfl⟩)⟩

/-- the path that was told, in the reference -/
def TY (S : Nat → Int → Int) (P : List Int) : Prop := S 14 0 = 0 ∨ (S 14 0 = 1 ∧ S 17 0 = P.length ∧ S 18 0 = rw_ P ∧ ok5 P)

set_option maxRecDepth 100000 in
set_option maxHeartbeats 4000000 in
theorem m_M_step {l : Launch} {D : va_G} {a : Nat → Nat} {ki kz kl kq : ClassId} {S : Nat → Int → Int} {i : Int} {P : List Int} (hT : TY S P) (hi : r32 i) : MY l D a ki kz kl kq y_M_step b_M_step 2 (some .int) rm_M_step [.ref (a 0), .int (iI i)] S (pI fun r S' => S' = S ∧ (((S 14 0 = 1 ∧ 0 ≤ i ∧ i < P.length) ∧ r = P.getD i.toNat 0) ∨ (¬ (S 14 0 = 1 ∧ 0 ≤ i ∧ i < P.length) ∧ r = -2))) := by
  refine MM.go b_M_step 2 (some .int) "NextPathsModel" [(0, .ref (a 0)), (1, .int (iI i))] (by decide) rfl rfl (Nat.le_of_ble_eq_true rfl) ?_
  intro p e s m args below meth c C hr hk
  have h14 : S 14 0 = 0 ∨ S 14 0 = 1 := by rcases hT with q | q <;> omega
  refine g_aload_n C d_M_step_0 rfl rfl ?_
  refine g_get C 0 14 i_M wY_0 rfl (by decide) k_M_76 rfl rfl d_M_step_1 rfl ?_
  refine g_if_eq (tgt := 21) C d_M_step_4 (by decide) rfl (by omega) (fun h4 => ?_) (fun h4 => ?_)
  · refine g_bipush (z := (-2)) C d_M_step_21 rfl (by decide) ?_
    refine g_iret C hr hk d_M_step_23 ⟨_, rfl, ?_⟩
    exact ⟨rfl, Or.inr ⟨by omega, rfl⟩⟩
  · have hq := hT.resolve_left (by omega)
    have hl := hq.2.2.2.1
    refine g_iload_n C d_M_step_7 rfl rfl ?_
    refine g_iconst (z := 0) C d_M_step_8 rfl rfl ?_
    refine g_aload_n C d_M_step_9 rfl rfl ?_
    refine g_get C 0 17 i_M wY_0 rfl (by decide) k_M_115 rfl rfl d_M_step_10 rfl ?_
    refine g_v (z' := (P.length : Int)) hq.2.1 ?_
    refine g_iconst (z := 1) C d_M_step_13 rfl rfl ?_
    refine g_isub C d_M_step_14 rfl rfl ?_
    refine g_runI (wY_fix a ki kz kl kq) rfl (rn_S C (m_M_isIn hi (by decide) (by omega)) 3 kc_M_isIn k_M_83 ks_M_isIn kn_M hy_M_isIn ⟨rfl, rfl⟩ ⟨by decide, by decide⟩ ⟨Nat.le_refl _, Nat.le_refl _⟩ rfl rfl (Nat.le_of_ble_eq_true rfl) d_M_step_15) (fun r1 S1 hp1 => ?_)
    obtain ⟨hS1, hp1⟩ := hp1
    refine GG.at hS1 ?_
    refine g_if_ne (tgt := 24) C d_M_step_18 (by decide) rfl (by omega) (fun h18 => ?_) (fun h18 => ?_)
    · obtain ⟨b0, b1, b2⟩ := rw_a hq.2.2.2
      have b3 := b2 i.toNat (by omega)
      refine g_aload_n C d_M_step_24 rfl rfl ?_
      refine g_get C 0 18 i_M wY_0 rfl (by decide) k_M_118 rfl rfl d_M_step_25 rfl ?_
      refine g_vl (z' := rw_ P) hq.2.2.1 ?_
      refine g_iconst (z := 5) C d_M_step_28 rfl rfl ?_
      refine g_aload_n C d_M_step_29 rfl rfl ?_
      refine g_get C 0 17 i_M wY_0 rfl (by decide) k_M_115 rfl rfl d_M_step_30 rfl ?_
      refine g_v (z' := (P.length : Int)) hq.2.1 ?_
      refine g_iconst (z := 1) C d_M_step_33 rfl rfl ?_
      refine g_isub C d_M_step_34 rfl rfl ?_
      refine g_iload_n C d_M_step_35 rfl rfl ?_
      refine g_isub C d_M_step_36 rfl rfl ?_
      refine g_imul (z := 5 * ((P.length : Int) - 1 - i)) C d_M_step_37 rfl rfl ?_
      refine g_lshr (z := rw_ P / 2 ^ (5 * ((P.length : Int) - 1 - i)).toNat) C d_M_step_38 (lshr_ok b0 (by omega) (by omega) (by omega)) rfl ?_
      refine g_ldc2 (z := 31) C k_M_146 d_M_step_39 rfl ?_
      refine g_land (z := rw_ P / 2 ^ (5 * ((P.length : Int) - 1 - i)).toNat % 32) C d_M_step_42 (land_ok (Int.ediv_nonneg b0 (Int.le_of_lt (Int.pow_pos (by omega)))) (Int.lt_of_le_of_lt (Int.ediv_le_self _ b0) (by omega))) rfl ?_
      refine g_l2i C d_M_step_43 rfl ?_
      refine g_iret C hr hk d_M_step_44 ⟨_, rfl, ?_⟩
      refine ⟨rfl, Or.inl ⟨by omega, ?_⟩⟩
      rw [← b3, show (i.toNat : Int) = i by omega]
    · refine g_bipush (z := (-2)) C d_M_step_21 rfl (by decide) ?_
      refine g_iret C hr hk d_M_step_23 ⟨_, rfl, ?_⟩
      exact ⟨rfl, Or.inr ⟨by omega, rfl⟩⟩

set_option maxRecDepth 100000 in
set_option maxHeartbeats 4000000 in
theorem m_M_sum {l : Launch} {D : va_G} {a : Nat → Nat} {ki kz kl kq : ClassId} {S : Nat → Int → Int} {w : Int} (h14 : S 14 0 = 0 ∨ S 14 0 = 1) (hw : r32 w) : MY l D a ki kz kl kq y_M_sum b_M_sum 2 (some .int) rm_M_sum [.ref (a 0), .int (iI w)] S (pI fun r S' => S' = S ∧ ((¬ (0 ≤ w ∧ w ≤ 2) ∧ r = -2) ∨ ((0 ≤ w ∧ w ≤ 2) ∧ ((S 14 0 = 0 ∧ r = -1) ∨ (S 14 0 ≠ 0 ∧ ((w = 0 ∧ r = S 15 0) ∨ (w = 1 ∧ r = S 16 0) ∨ (w = 2 ∧ r = S 17 0))))))) := by
  refine MM.go b_M_sum 2 (some .int) "NextPathsModel" [(0, .ref (a 0)), (1, .int (iI w))] (by decide) rfl rfl (Nat.le_of_ble_eq_true rfl) ?_
  intro p e s m args below meth c C hr hk
  refine g_iload_n C d_M_sum_0 rfl rfl ?_
  refine g_iconst (z := 0) C d_M_sum_1 rfl rfl ?_
  refine g_iconst (z := 2) C d_M_sum_2 rfl rfl ?_
  refine g_runI (wY_fix a ki kz kl kq) rfl (rn_S C (m_M_isIn hw (by decide) (by decide)) 3 kc_M_isIn k_M_83 ks_M_isIn kn_M hy_M_isIn ⟨rfl, rfl⟩ ⟨by decide, by decide⟩ ⟨Nat.le_refl _, Nat.le_refl _⟩ rfl rfl (Nat.le_of_ble_eq_true rfl) d_M_sum_3) (fun r1 S1 hp1 => ?_)
  obtain ⟨hS1, hp1⟩ := hp1
  refine GG.at hS1 ?_
  refine g_if_ne (tgt := 12) C d_M_sum_6 (by decide) rfl (by omega) (fun h6 => ?_) (fun h6 => ?_)
  · refine g_aload_n C d_M_sum_12 rfl rfl ?_
    refine g_get C 0 14 i_M wY_0 rfl (by decide) k_M_76 rfl rfl d_M_sum_13 rfl ?_
    refine g_if_ne (tgt := 23) C d_M_sum_16 (by decide) rfl (by omega) (fun h16 => ?_) (fun h16 => ?_)
    · refine g_iload_n C d_M_sum_23 rfl rfl ?_
      refine g_if_ne (tgt := 34) C d_M_sum_24 (by decide) rfl (by omega) (fun h24 => ?_) (fun h24 => ?_)
      · refine g_iload_n C d_M_sum_34 rfl rfl ?_
        refine g_iconst (z := 1) C d_M_sum_35 rfl rfl ?_
        refine g_icmp_ne (tgt := 46) C d_M_sum_36 (by decide) rfl (by omega) (by omega) (fun h36 => ?_) (fun h36 => ?_)
        · refine g_aload_n C d_M_sum_46 rfl rfl ?_
          refine g_get C 0 17 i_M wY_0 rfl (by decide) k_M_115 rfl rfl d_M_sum_47 rfl ?_
          refine g_iret C hr hk d_M_sum_50 ⟨_, rfl, ?_⟩
          first
            | exact ⟨rfl, Or.inr ⟨by omega, Or.inl ⟨by omega, rfl⟩⟩⟩
            | exact ⟨rfl, Or.inr ⟨by omega, Or.inr ⟨by omega, Or.inl ⟨by omega, rfl⟩⟩⟩⟩
            | exact ⟨rfl, Or.inr ⟨by omega, Or.inr ⟨by omega, Or.inr (Or.inl ⟨by omega, rfl⟩)⟩⟩⟩
            | exact ⟨rfl, Or.inr ⟨by omega, Or.inr ⟨by omega, Or.inr (Or.inr ⟨by omega, rfl⟩)⟩⟩⟩
        · refine g_aload_n C d_M_sum_39 rfl rfl ?_
          refine g_get C 0 16 i_M wY_0 rfl (by decide) k_M_112 rfl rfl d_M_sum_40 rfl ?_
          refine g_goto (tgt := 50) C d_M_sum_43 (by decide) ?_
          refine g_iret C hr hk d_M_sum_50 ⟨_, rfl, ?_⟩
          first
            | exact ⟨rfl, Or.inr ⟨by omega, Or.inl ⟨by omega, rfl⟩⟩⟩
            | exact ⟨rfl, Or.inr ⟨by omega, Or.inr ⟨by omega, Or.inl ⟨by omega, rfl⟩⟩⟩⟩
            | exact ⟨rfl, Or.inr ⟨by omega, Or.inr ⟨by omega, Or.inr (Or.inl ⟨by omega, rfl⟩)⟩⟩⟩
            | exact ⟨rfl, Or.inr ⟨by omega, Or.inr ⟨by omega, Or.inr (Or.inr ⟨by omega, rfl⟩)⟩⟩⟩
      · refine g_aload_n C d_M_sum_27 rfl rfl ?_
        refine g_get C 0 15 i_M wY_0 rfl (by decide) k_M_109 rfl rfl d_M_sum_28 rfl ?_
        refine g_goto (tgt := 50) C d_M_sum_31 (by decide) ?_
        refine g_iret C hr hk d_M_sum_50 ⟨_, rfl, ?_⟩
        first
          | exact ⟨rfl, Or.inr ⟨by omega, Or.inl ⟨by omega, rfl⟩⟩⟩
          | exact ⟨rfl, Or.inr ⟨by omega, Or.inr ⟨by omega, Or.inl ⟨by omega, rfl⟩⟩⟩⟩
          | exact ⟨rfl, Or.inr ⟨by omega, Or.inr ⟨by omega, Or.inr (Or.inl ⟨by omega, rfl⟩)⟩⟩⟩
          | exact ⟨rfl, Or.inr ⟨by omega, Or.inr ⟨by omega, Or.inr (Or.inr ⟨by omega, rfl⟩)⟩⟩⟩
    · refine g_iconst (z := (-1)) C d_M_sum_19 rfl rfl ?_
      refine g_goto (tgt := 50) C d_M_sum_20 (by decide) ?_
      refine g_iret C hr hk d_M_sum_50 ⟨_, rfl, ?_⟩
      first
        | exact ⟨rfl, Or.inr ⟨by omega, Or.inl ⟨by omega, rfl⟩⟩⟩
        | exact ⟨rfl, Or.inr ⟨by omega, Or.inr ⟨by omega, Or.inl ⟨by omega, rfl⟩⟩⟩⟩
        | exact ⟨rfl, Or.inr ⟨by omega, Or.inr ⟨by omega, Or.inr (Or.inl ⟨by omega, rfl⟩)⟩⟩⟩
        | exact ⟨rfl, Or.inr ⟨by omega, Or.inr ⟨by omega, Or.inr (Or.inr ⟨by omega, rfl⟩)⟩⟩⟩
  · refine g_bipush (z := (-2)) C d_M_sum_9 rfl (by decide) ?_
    refine g_iret C hr hk d_M_sum_11 ⟨_, rfl, ?_⟩
    exact ⟨rfl, Or.inl ⟨by omega, rfl⟩⟩

set_option maxRecDepth 100000 in
set_option maxHeartbeats 4000000 in
theorem m_M_told {l : Launch} {D : va_G} {a : Nat → Nat} {ki kz kl kq : ClassId} {S : Nat → Int → Int} {k w : Int} (hG : GJ S) (hk0 : r32 k) (hw : r32 w) : MY l D a ki kz kl kq y_M_told b_M_told 3 (some .int) rm_M_told [.ref (a 0), .int (iI k), .int (iI w)] S (pI fun r S' => S' = S ∧ ((¬ ((0 ≤ k ∧ k < S 1 0) ∧ 0 ≤ w ∧ w ≤ 4) ∧ r = -2) ∨ (((0 ≤ k ∧ k < S 1 0) ∧ 0 ≤ w ∧ w ≤ 4) ∧ r = arT S k w))) := by
  refine MM.go b_M_told 3 (some .int) "NextPathsModel" [(0, .ref (a 0)), (1, .int (iI k)), (2, .int (iI w))] (by decide) rfl rfl (Nat.le_of_ble_eq_true rfl) ?_
  intro p e s m args below meth c C hr hk
  have hn20 := hG.2.1
  have h01 := (hG.2.2.2.2.1 k).2.2.2.2.2.2.2.2
  refine g_aload_n C d_M_told_0 rfl rfl ?_
  refine g_iload_n C d_M_told_1 rfl rfl ?_
  refine g_runI (wY_fix a ki kz kl kq) rfl (rn_V C (m_M_isArc hk0 hG.2.1) 0 1 wY_0 rfl rfl kc_M_isArc k_M_95 ki_M_isArc kx_M_isArc kn_M hy_M_isArc ⟨rfl, rfl⟩ ⟨by decide, by decide⟩ ⟨Nat.le_refl _, Nat.le_refl _⟩ rfl rfl (Nat.le_of_ble_eq_true rfl) d_M_told_2) (fun r1 S1 hp1 => ?_)
  obtain ⟨hS1, hp1⟩ := hp1
  refine GG.at hS1 ?_
  refine g_if_eq (tgt := 17) C d_M_told_5 (by decide) rfl (by omega) (fun h5 => ?_) (fun h5 => ?_)
  · refine g_bipush (z := (-2)) C d_M_told_17 rfl (by decide) ?_
    refine g_iret C hr hk d_M_told_19 ⟨_, rfl, ?_⟩
    exact ⟨rfl, Or.inl ⟨by omega, rfl⟩⟩
  · refine g_iload_n C d_M_told_8 rfl rfl ?_
    refine g_iconst (z := 0) C d_M_told_9 rfl rfl ?_
    refine g_iconst (z := 4) C d_M_told_10 rfl rfl ?_
    refine g_runI (wY_fix a ki kz kl kq) rfl (rn_S C (m_M_isIn hw (by decide) (by decide)) 3 kc_M_isIn k_M_83 ks_M_isIn kn_M hy_M_isIn ⟨rfl, rfl⟩ ⟨by decide, by decide⟩ ⟨Nat.le_refl _, Nat.le_refl _⟩ rfl rfl (Nat.le_of_ble_eq_true rfl) d_M_told_11) (fun r2 S2 hp2 => ?_)
    obtain ⟨hS2, hp2⟩ := hp2
    refine GG.at hS2 ?_
    refine g_if_ne (tgt := 20) C d_M_told_14 (by decide) rfl (by omega) (fun h14 => ?_) (fun h14 => ?_)
    · refine g_iload_n C d_M_told_20 rfl rfl ?_
      rcases (show w = 0 ∨ w = 1 ∨ w = 2 ∨ w = 3 ∨ (w < 0 ∨ 3 < w) by omega) with h21 | h21 | h21 | h21 | h21
      · refine g_tin (off := 31) (tgt := 52) C h21 d_M_told_21 (by decide) (by decide) (by decide) rfl (by decide) ?_
        refine g_aload_n C d_M_told_52 rfl rfl ?_
        refine g_get C 0 2 i_M wY_0 rfl (by decide) k_M_7 rfl rfl d_M_told_53 rfl ?_
        refine g_iload_n C d_M_told_56 rfl rfl ?_
        refine g_iald C 1 0 wY_1 rfl (by omega) (by omega) (by decide) d_M_told_57 rfl ?_
        refine g_iret C hr hk d_M_told_58 ⟨_, rfl, ?_⟩
        exact ⟨rfl, Or.inr ⟨by omega, by rw [h21]; rfl⟩⟩
      · refine g_tin (off := 38) (tgt := 59) C h21 d_M_told_21 (by decide) (by decide) (by decide) rfl (by decide) ?_
        refine g_aload_n C d_M_told_59 rfl rfl ?_
        refine g_get C 0 3 i_M wY_0 rfl (by decide) k_M_13 rfl rfl d_M_told_60 rfl ?_
        refine g_iload_n C d_M_told_63 rfl rfl ?_
        refine g_iald C 2 0 wY_2 rfl (by omega) (by omega) (by decide) d_M_told_64 rfl ?_
        refine g_iret C hr hk d_M_told_65 ⟨_, rfl, ?_⟩
        exact ⟨rfl, Or.inr ⟨by omega, by rw [h21]; rfl⟩⟩
      · refine g_tin (off := 45) (tgt := 66) C h21 d_M_told_21 (by decide) (by decide) (by decide) rfl (by decide) ?_
        refine g_aload_n C d_M_told_66 rfl rfl ?_
        refine g_get C 0 4 i_M wY_0 rfl (by decide) k_M_16 rfl rfl d_M_told_67 rfl ?_
        refine g_iload_n C d_M_told_70 rfl rfl ?_
        refine g_iald C 3 0 wY_3 rfl (by omega) (by omega) (by decide) d_M_told_71 rfl ?_
        refine g_iret C hr hk d_M_told_72 ⟨_, rfl, ?_⟩
        exact ⟨rfl, Or.inr ⟨by omega, by rw [h21]; rfl⟩⟩
      · refine g_tin (off := 52) (tgt := 73) C h21 d_M_told_21 (by decide) (by decide) (by decide) rfl (by decide) ?_
        refine g_aload_n C d_M_told_73 rfl rfl ?_
        refine g_get C 0 5 i_M wY_0 rfl (by decide) k_M_19 rfl rfl d_M_told_74 rfl ?_
        refine g_iload_n C d_M_told_77 rfl rfl ?_
        refine g_iald C 4 0 wY_4 rfl (by omega) (by omega) (by decide) d_M_told_78 rfl ?_
        refine g_iret C hr hk d_M_told_79 ⟨_, rfl, ?_⟩
        exact ⟨rfl, Or.inr ⟨by omega, by rw [h21]; rfl⟩⟩
      · refine g_tout (tgt := 80) C h21 d_M_told_21 (by omega) (by decide) ?_
        refine g_aload_n C d_M_told_80 rfl rfl ?_
        refine g_get C 0 6 i_M wY_0 rfl (by decide) k_M_22 rfl rfl d_M_told_81 rfl ?_
        refine g_iload_n C d_M_told_84 rfl rfl ?_
        refine g_zald C 5 1 wY_5 rfl (by omega) (by omega) (by decide) d_M_told_85 rfl ?_
        refine g_if_eq (tgt := 93) C d_M_told_86 (by decide) rfl (by omega) (fun h86 => ?_) (fun h86 => ?_)
        · refine g_iconst (z := 0) C d_M_told_93 rfl rfl ?_
          refine g_iret C hr hk d_M_told_94 ⟨_, rfl, ?_⟩
          exact ⟨rfl, Or.inr ⟨by omega, by rw [show w = 4 by omega]; show _ = S 6 k; omega⟩⟩
        · refine g_iconst (z := 1) C d_M_told_89 rfl rfl ?_
          refine g_goto (tgt := 94) C d_M_told_90 (by decide) ?_
          refine g_iret C hr hk d_M_told_94 ⟨_, rfl, ?_⟩
          exact ⟨rfl, Or.inr ⟨by omega, by rw [show w = 4 by omega]; show _ = S 6 k; omega⟩⟩
    · refine g_bipush (z := (-2)) C d_M_told_17 rfl (by decide) ?_
      refine g_iret C hr hk d_M_told_19 ⟨_, rfl, ?_⟩
      exact ⟨rfl, Or.inl ⟨by omega, rfl⟩⟩

set_option maxRecDepth 100000 in
set_option maxHeartbeats 4000000 in
theorem lo_M_of {l : Launch} {D : va_G} {a : Nat → Nat} {ki kz kl kq : ClassId} {p : Program} {e : Env} {s : State} {m : MethodId} {args : Array Value} {below : List Frame} {meth : Method} {c : Code} {S : Nat → Int → Int} {w : Int} (hw2 : w = 2) (hn : 0 ≤ S 1 0 ∧ S 1 0 ≤ 20) (h6 : ∀ k, S 6 k = 0 ∨ S 6 k = 1) (C : CX p s m args c b_M_of 4 "NextPathsModel" TT D cls (tyz ki kz kl kq)) (hr : meth.sig.returnType = (some .int)) (hk : meth.locks = false) : ∀ (k i : Nat), i ≤ (S 1 0).toNat → (S 1 0).toNat ≤ i + k → GG p l e rm_M_of s m args below meth c D cls (adr (wY a ki kz kl kq S)) 4 0 0 (MQ below (QcW D cls (wY a ki kz kl kq) S (pI fun r S' => S' = S ∧ ((w = 0 ∧ r = S 0 0) ∨ (w = 1 ∧ r = S 1 0) ∨ (w = 2 ∧ r = sm (S 6) (S 1 0).toNat) ∨ (¬ (0 ≤ w ∧ w ≤ 2) ∧ r = -2)))) args s 0 0 (adr (wY a ki kz kl kq S))) (wY a ki kz kl kq) S [(3, .int (iI (i : Int))), (2, .int (iI (sm (S 6) i))), (0, .ref (a 0)), (1, .int (iI w))] 37 [] := by
  intro k
  induction k with
  | zero =>
    intro i hi hk0
    have h01 := h6 i
    have hb0 := sm_nn (f := S 6) i (fun j _ _ => by have := h6 j; omega)
    have hb1 : sm (S 6) i ≤ i := by
      have q := sm_le (f := S 6) (g := fun _ => 1) i (fun j _ _ => by have := h6 j; show S 6 j ≤ 1; omega)
      have q2 : ∀ n : Nat, sm (fun _ => 1) n = n := fun n => by
        induction n with
        | zero => rfl
        | succ n ih => simp only [sm]; omega
      rw [q2] at q; exact q
    refine g_iload_n C d_M_of_37 rfl rfl ?_
    refine g_aload_n C d_M_of_38 rfl rfl ?_
    refine g_get C 0 1 i_M wY_0 rfl (by decide) k_M_73 rfl rfl d_M_of_39 rfl ?_
    refine g_icmp_ge (tgt := 68) C d_M_of_42 (by decide) rfl (by omega) (by omega) (fun h42 => ?_) (fun h42 => ?_)
    · refine g_iload_n C d_M_of_68 rfl rfl ?_
      refine g_iret C hr hk d_M_of_69 ⟨_, rfl, ?_⟩
      have hi2 : i = (S 1 0).toNat := by omega
      subst hi2
      exact ⟨rfl, Or.inr (Or.inr (Or.inl ⟨hw2, rfl⟩))⟩
    · exact absurd h42 (by omega)
  | succ k ih =>
    intro i hi hk0
    have h01 := h6 i
    have hb0 := sm_nn (f := S 6) i (fun j _ _ => by have := h6 j; omega)
    have hb1 : sm (S 6) i ≤ i := by
      have q := sm_le (f := S 6) (g := fun _ => 1) i (fun j _ _ => by have := h6 j; show S 6 j ≤ 1; omega)
      have q2 : ∀ n : Nat, sm (fun _ => 1) n = n := fun n => by
        induction n with
        | zero => rfl
        | succ n ih => simp only [sm]; omega
      rw [q2] at q; exact q
    refine g_iload_n C d_M_of_37 rfl rfl ?_
    refine g_aload_n C d_M_of_38 rfl rfl ?_
    refine g_get C 0 1 i_M wY_0 rfl (by decide) k_M_73 rfl rfl d_M_of_39 rfl ?_
    refine g_icmp_ge (tgt := 68) C d_M_of_42 (by decide) rfl (by omega) (by omega) (fun h42 => ?_) (fun h42 => ?_)
    · refine g_iload_n C d_M_of_68 rfl rfl ?_
      refine g_iret C hr hk d_M_of_69 ⟨_, rfl, ?_⟩
      have hi2 : i = (S 1 0).toNat := by omega
      subst hi2
      exact ⟨rfl, Or.inr (Or.inr (Or.inl ⟨hw2, rfl⟩))⟩
    · refine g_iload_n C d_M_of_45 rfl rfl ?_
      refine g_aload_n C d_M_of_46 rfl rfl ?_
      refine g_get C 0 6 i_M wY_0 rfl (by decide) k_M_22 rfl rfl d_M_of_47 rfl ?_
      refine g_iload_n C d_M_of_50 rfl rfl ?_
      refine g_zald C 5 1 wY_5 rfl (by omega) (by omega) (by decide) d_M_of_51 rfl ?_
      refine g_if_eq (tgt := 59) C d_M_of_52 (by decide) rfl (by omega) (fun h52 => ?_) (fun h52 => ?_)
      · refine g_iconst (z := 0) C d_M_of_59 rfl rfl ?_
        refine g_iadd C d_M_of_60 rfl rfl ?_
        refine g_nm (fun r2 e_r2 => ?_)
        refine g_istore_n (lv' := [(2, .int (iI r2)), (3, .int (iI (i : Int))), (0, .ref (a 0)), (1, .int (iI w))]) C d_M_of_61 (by decide) rfl rfl ?_
        obtain ⟨i2, e_i2⟩ : ∃ z : Int, z = (i : Int) + 1 := ⟨_, rfl⟩
        refine g_iinc (q := 1) (z := i2) (lv' := [(3, .int (iI i2)), (2, .int (iI r2)), (0, .ref (a 0)), (1, .int (iI w))]) C d_M_of_62 rfl e_i2.symm (by decide) rfl rfl ?_
        refine g_goto (tgt := 37) C d_M_of_65 (by decide) ?_
        refine GG.lvs (lv' := [(3, .int (iI ((i + 1 : Nat) : Int))), (2, .int (iI (sm (S 6) (i + 1)))), (0, .ref (a 0)), (1, .int (iI w))]) ?_ (ih (i + 1) (by omega) (by omega))
        have q1 : i2 = ((i + 1 : Nat) : Int) := by omega
        subst q1
        have q2 : r2 = sm (S 6) (i + 1) := by simp only [sm]; omega
        subst q2; simp [lk]
      · refine g_iconst (z := 1) C d_M_of_55 rfl rfl ?_
        refine g_goto (tgt := 60) C d_M_of_56 (by decide) ?_
        refine g_iadd C d_M_of_60 rfl rfl ?_
        refine g_nm (fun r2 e_r2 => ?_)
        refine g_istore_n (lv' := [(2, .int (iI r2)), (3, .int (iI (i : Int))), (0, .ref (a 0)), (1, .int (iI w))]) C d_M_of_61 (by decide) rfl rfl ?_
        obtain ⟨i2, e_i2⟩ : ∃ z : Int, z = (i : Int) + 1 := ⟨_, rfl⟩
        refine g_iinc (q := 1) (z := i2) (lv' := [(3, .int (iI i2)), (2, .int (iI r2)), (0, .ref (a 0)), (1, .int (iI w))]) C d_M_of_62 rfl e_i2.symm (by decide) rfl rfl ?_
        refine g_goto (tgt := 37) C d_M_of_65 (by decide) ?_
        refine GG.lvs (lv' := [(3, .int (iI ((i + 1 : Nat) : Int))), (2, .int (iI (sm (S 6) (i + 1)))), (0, .ref (a 0)), (1, .int (iI w))]) ?_ (ih (i + 1) (by omega) (by omega))
        have q1 : i2 = ((i + 1 : Nat) : Int) := by omega
        subst q1
        have q2 : r2 = sm (S 6) (i + 1) := by simp only [sm]; omega
        subst q2; simp [lk]

set_option maxRecDepth 100000 in
set_option maxHeartbeats 4000000 in
theorem m_M_of {l : Launch} {D : va_G} {a : Nat → Nat} {ki kz kl kq : ClassId} {S : Nat → Int → Int} {w : Int} (hG : GJ S) (hw : r32 w) : MY l D a ki kz kl kq y_M_of b_M_of 4 (some .int) rm_M_of [.ref (a 0), .int (iI w)] S (pI fun r S' => S' = S ∧ ((w = 0 ∧ r = S 0 0) ∨ (w = 1 ∧ r = S 1 0) ∨ (w = 2 ∧ r = sm (S 6) (S 1 0).toNat) ∨ (¬ (0 ≤ w ∧ w ≤ 2) ∧ r = -2))) := by
  refine MM.go b_M_of 4 (some .int) "NextPathsModel" [(0, .ref (a 0)), (1, .int (iI w))] (by decide) rfl rfl (Nat.le_of_ble_eq_true rfl) ?_
  intro p e s m args below meth c C hr hk
  refine g_iload_n C d_M_of_0 rfl rfl ?_
  refine g_iconst (z := 0) C d_M_of_1 rfl rfl ?_
  refine g_iconst (z := 2) C d_M_of_2 rfl rfl ?_
  refine g_runI (wY_fix a ki kz kl kq) rfl (rn_S C (m_M_isIn hw (by decide) (by decide)) 3 kc_M_isIn k_M_83 ks_M_isIn kn_M hy_M_isIn ⟨rfl, rfl⟩ ⟨by decide, by decide⟩ ⟨Nat.le_refl _, Nat.le_refl _⟩ rfl rfl (Nat.le_of_ble_eq_true rfl) d_M_of_3) (fun r1 S1 hp1 => ?_)
  obtain ⟨hS1, hp1⟩ := hp1
  refine GG.at hS1 ?_
  refine g_if_ne (tgt := 12) C d_M_of_6 (by decide) rfl (by omega) (fun h6 => ?_) (fun h6 => ?_)
  · refine g_iload_n C d_M_of_12 rfl rfl ?_
    refine g_iconst (z := 2) C d_M_of_13 rfl rfl ?_
    refine g_icmp_ge (tgt := 33) C d_M_of_14 (by decide) rfl (by omega) (by omega) (fun h14 => ?_) (fun h14 => ?_)
    · refine g_iconst (z := 0) C d_M_of_33 rfl rfl ?_
      refine g_nm (fun r0 e_r0 => ?_)
      refine g_istore_n (lv' := [(2, .int (iI r0)), (0, .ref (a 0)), (1, .int (iI w))]) C d_M_of_34 (by decide) rfl rfl ?_
      refine g_iconst (z := 0) C d_M_of_35 rfl rfl ?_
      refine g_nm (fun i0 e_i0 => ?_)
      refine g_istore_n (lv' := [(3, .int (iI i0)), (2, .int (iI r0)), (0, .ref (a 0)), (1, .int (iI w))]) C d_M_of_36 (by decide) rfl rfl ?_
      subst e_r0
      subst e_i0
      exact lo_M_of (by omega) hG.2.1 (fun k => (hG.2.2.2.2.1 k).2.2.2.2.2.2.2.2) C hr hk _ 0 (by omega) (Nat.le_add_left _ _)
    · refine g_iload_n C d_M_of_17 rfl rfl ?_
      refine g_if_ne (tgt := 28) C d_M_of_18 (by decide) rfl (by omega) (fun h18 => ?_) (fun h18 => ?_)
      · refine g_aload_n C d_M_of_28 rfl rfl ?_
        refine g_get C 0 1 i_M wY_0 rfl (by decide) k_M_73 rfl rfl d_M_of_29 rfl ?_
        refine g_iret C hr hk d_M_of_32 ⟨_, rfl, ?_⟩
        first
          | exact ⟨rfl, Or.inl ⟨by omega, rfl⟩⟩
          | exact ⟨rfl, Or.inr (Or.inl ⟨by omega, rfl⟩)⟩
      · refine g_aload_n C d_M_of_21 rfl rfl ?_
        refine g_get C 0 0 i_M wY_0 rfl (by decide) k_M_69 rfl rfl d_M_of_22 rfl ?_
        refine g_goto (tgt := 32) C d_M_of_25 (by decide) ?_
        refine g_iret C hr hk d_M_of_32 ⟨_, rfl, ?_⟩
        first
          | exact ⟨rfl, Or.inl ⟨by omega, rfl⟩⟩
          | exact ⟨rfl, Or.inr (Or.inl ⟨by omega, rfl⟩)⟩
  · refine g_bipush (z := (-2)) C d_M_of_9 rfl (by decide) ?_
    refine g_iret C hr hk d_M_of_11 ⟨_, rfl, ?_⟩
    exact ⟨rfl, Or.inr (Or.inr (Or.inr ⟨by omega, rfl⟩))⟩

set_option maxRecDepth 100000 in
set_option maxHeartbeats 4000000 in
theorem m_M_tell {l : Launch} {D : va_G} {a : Nat → Nat} {ki kz kl kq : ClassId} {S : Nat → Int → Int} {p0 : Int} (hp0 : 0 ≤ p0 ∧ p0 < 4000) : MY l D a ki kz kl kq y_M_tell b_M_tell 2 (some .int) rm_M_tell [.ref (a 0), .int (iI p0)] S (pI fun r S' => r = S 11 p0 ∧ S' = us (us (us (us (us S 14 0 1) 15 0 (S 8 p0)) 16 0 (S 9 p0)) 17 0 (S 11 p0)) 18 0 (S 10 p0)) := by
  refine MM.go b_M_tell 2 (some .int) "NextPathsModel" [(0, .ref (a 0)), (1, .int (iI p0))] (by decide) rfl rfl (Nat.le_of_ble_eq_true rfl) ?_
  intro p e s m args below meth c C hr hk
  refine g_aload_n C d_M_tell_0 rfl rfl ?_
  refine g_iconst (z := 1) C d_M_tell_1 rfl rfl ?_
  refine g_put (ty := .boolean) C 0 14 ty_M i_M ty_M_ok n_M wY_0 rfl (by decide) k_M_76 rfl rfl (by decide +kernel) rfl rfl (Nat.le_of_ble_eq_true rfl) wY_p0_14 d_M_tell_2 rfl ?_
  refine g_aload_n C d_M_tell_5 rfl rfl ?_
  refine g_aload_n C d_M_tell_6 rfl rfl ?_
  refine g_get C 0 8 i_M wY_0 rfl (by decide) k_M_26 rfl rfl d_M_tell_7 rfl ?_
  refine g_iload_n C d_M_tell_10 rfl rfl ?_
  refine g_iald C 6 0 wY_6 rfl (by omega) (by omega) (by decide) d_M_tell_11 rfl ?_
  refine g_v (z' := S 8 p0) rfl ?_
  refine g_put (ty := .int) C 0 15 ty_M i_M ty_M_ok n_M wY_0 rfl (by decide) k_M_109 rfl rfl (by decide +kernel) rfl rfl (Nat.le_of_ble_eq_true rfl) wY_p0_15 d_M_tell_12 rfl ?_
  refine g_aload_n C d_M_tell_15 rfl rfl ?_
  refine g_aload_n C d_M_tell_16 rfl rfl ?_
  refine g_get C 0 9 i_M wY_0 rfl (by decide) k_M_29 rfl rfl d_M_tell_17 rfl ?_
  refine g_iload_n C d_M_tell_20 rfl rfl ?_
  refine g_iald C 7 0 wY_7 rfl (by omega) (by omega) (by decide) d_M_tell_21 rfl ?_
  refine g_v (z' := S 9 p0) rfl ?_
  refine g_put (ty := .int) C 0 16 ty_M i_M ty_M_ok n_M wY_0 rfl (by decide) k_M_112 rfl rfl (by decide +kernel) rfl rfl (Nat.le_of_ble_eq_true rfl) wY_p0_16 d_M_tell_22 rfl ?_
  refine g_aload_n C d_M_tell_25 rfl rfl ?_
  refine g_aload_n C d_M_tell_26 rfl rfl ?_
  refine g_get C 0 11 i_M wY_0 rfl (by decide) k_M_36 rfl rfl d_M_tell_27 rfl ?_
  refine g_iload_n C d_M_tell_30 rfl rfl ?_
  refine g_iald C 9 0 wY_9 rfl (by omega) (by omega) (by decide) d_M_tell_31 rfl ?_
  refine g_v (z' := S 11 p0) rfl ?_
  refine g_put (ty := .int) C 0 17 ty_M i_M ty_M_ok n_M wY_0 rfl (by decide) k_M_115 rfl rfl (by decide +kernel) rfl rfl (Nat.le_of_ble_eq_true rfl) wY_p0_17 d_M_tell_32 rfl ?_
  refine g_aload_n C d_M_tell_35 rfl rfl ?_
  refine g_aload_n C d_M_tell_36 rfl rfl ?_
  refine g_get C 0 10 i_M wY_0 rfl (by decide) k_M_32 rfl rfl d_M_tell_37 rfl ?_
  refine g_iload_n C d_M_tell_40 rfl rfl ?_
  refine g_lald C 8 2 wY_8 rfl (by omega) (by omega) (by decide) d_M_tell_41 rfl ?_
  refine g_vl (z' := S 10 p0) rfl ?_
  refine g_put (ty := .long) C 0 18 ty_M i_M ty_M_ok n_M wY_0 rfl (by decide) k_M_118 rfl rfl (by decide +kernel) rfl rfl (Nat.le_of_ble_eq_true rfl) wY_p0_18 d_M_tell_42 rfl ?_
  refine g_aload_n C d_M_tell_45 rfl rfl ?_
  refine g_get C 0 17 i_M wY_0 rfl (by decide) k_M_115 rfl rfl d_M_tell_46 rfl ?_
  refine g_v (z' := S 11 p0) rfl ?_
  refine g_iret C hr hk d_M_tell_49 ⟨_, rfl, ?_⟩
  exact ⟨rfl, rfl⟩

set_option maxRecDepth 100000 in
set_option maxHeartbeats 4000000 in
theorem m_M_isAhead {l : Launch} {D : va_G} {a : Nat → Nat} {ki kz kl kq : ClassId} {S : Nat → Int → Int} {w n q o : Int} (ho : 0 ≤ o ∧ o < 4000) (hw : r32 w) (hn : r32 n) (hq : r64 q) (h8 : r32 (S 8 o)) (h11 : r32 (S 11 o)) (h10 : r64 (S 10 o)) : MY l D a ki kz kl kq y_M_isAhead b_M_isAhead 6 (some .boolean) rm_M_isAhead [.ref (a 0), .int (iI w), .int (iI n), .long (lI q), .int (iI o)] S (pI fun r S' => S' = S ∧ ((r = 1 ∧ (w < S 8 o ∨ (w = S 8 o ∧ (n < S 11 o ∨ (n = S 11 o ∧ q < S 10 o))))) ∨ (r = 0 ∧ ¬ (w < S 8 o ∨ (w = S 8 o ∧ (n < S 11 o ∨ (n = S 11 o ∧ q < S 10 o))))))) := by
  refine MM.go b_M_isAhead 6 (some .boolean) "NextPathsModel" [(0, .ref (a 0)), (1, .int (iI w)), (2, .int (iI n)), (3, .long (lI q)), (5, .int (iI o))] (by decide) rfl rfl (Nat.le_of_ble_eq_true rfl) ?_
  intro p e s m args below meth c C hr hk
  refine g_iload_n C d_M_isAhead_0 rfl rfl ?_
  refine g_aload_n C d_M_isAhead_1 rfl rfl ?_
  refine g_get C 0 8 i_M wY_0 rfl (by decide) k_M_26 rfl rfl d_M_isAhead_2 rfl ?_
  refine g_iload C d_M_isAhead_5 rfl rfl ?_
  refine g_iald C 6 0 wY_6 rfl (by omega) (by omega) (by decide) d_M_isAhead_7 rfl ?_
  refine g_icmp_eq (tgt := 28) C d_M_isAhead_8 (by decide) rfl (by omega) (by omega) (fun h8 => ?_) (fun h8 => ?_)
  · refine g_iload_n C d_M_isAhead_28 rfl rfl ?_
    refine g_aload_n C d_M_isAhead_29 rfl rfl ?_
    refine g_get C 0 11 i_M wY_0 rfl (by decide) k_M_36 rfl rfl d_M_isAhead_30 rfl ?_
    refine g_iload C d_M_isAhead_33 rfl rfl ?_
    refine g_iald C 9 0 wY_9 rfl (by omega) (by omega) (by decide) d_M_isAhead_35 rfl ?_
    refine g_icmp_eq (tgt := 56) C d_M_isAhead_36 (by decide) rfl (by omega) (by omega) (fun h36 => ?_) (fun h36 => ?_)
    · refine g_lload_n C d_M_isAhead_56 rfl rfl ?_
      refine g_aload_n C d_M_isAhead_57 rfl rfl ?_
      refine g_get C 0 10 i_M wY_0 rfl (by decide) k_M_32 rfl rfl d_M_isAhead_58 rfl ?_
      refine g_iload C d_M_isAhead_61 rfl rfl ?_
      refine g_lald C 8 2 wY_8 rfl (by omega) (by omega) (by decide) d_M_isAhead_63 rfl ?_
      refine g_lcmp C d_M_isAhead_64 (by omega) (by omega) rfl ?_
      refine g_if_ge (tgt := 72) C d_M_isAhead_65 (by decide) rfl (sg_r _ _) (fun h65 => ?_) (fun h65 => ?_)
      · refine g_iconst (z := 0) C d_M_isAhead_72 rfl rfl ?_
        refine g_zret C hr hk (by omega) d_M_isAhead_73 ⟨_, rfl, ?_⟩
        first
          | (have h9 := sg_lt.mp h65; exact ⟨rfl, Or.inl ⟨rfl, by omega⟩⟩)
          | (have h9 := sg_ge.mp h65; exact ⟨rfl, Or.inr ⟨rfl, by omega⟩⟩)
      · refine g_iconst (z := 1) C d_M_isAhead_68 rfl rfl ?_
        refine g_goto (tgt := 73) C d_M_isAhead_69 (by decide) ?_
        refine g_zret C hr hk (by omega) d_M_isAhead_73 ⟨_, rfl, ?_⟩
        first
          | (have h9 := sg_lt.mp h65; exact ⟨rfl, Or.inl ⟨rfl, by omega⟩⟩)
          | (have h9 := sg_ge.mp h65; exact ⟨rfl, Or.inr ⟨rfl, by omega⟩⟩)
    · refine g_iload_n C d_M_isAhead_39 rfl rfl ?_
      refine g_aload_n C d_M_isAhead_40 rfl rfl ?_
      refine g_get C 0 11 i_M wY_0 rfl (by decide) k_M_36 rfl rfl d_M_isAhead_41 rfl ?_
      refine g_iload C d_M_isAhead_44 rfl rfl ?_
      refine g_iald C 9 0 wY_9 rfl (by omega) (by omega) (by decide) d_M_isAhead_46 rfl ?_
      refine g_icmp_ge (tgt := 54) C d_M_isAhead_47 (by decide) rfl (by omega) (by omega) (fun h47 => ?_) (fun h47 => ?_)
      · refine g_iconst (z := 0) C d_M_isAhead_54 rfl rfl ?_
        refine g_zret C hr hk (by omega) d_M_isAhead_55 ⟨_, rfl, ?_⟩
        first
          | exact ⟨rfl, Or.inl ⟨rfl, by omega⟩⟩
          | exact ⟨rfl, Or.inr ⟨rfl, by omega⟩⟩
      · refine g_iconst (z := 1) C d_M_isAhead_50 rfl rfl ?_
        refine g_goto (tgt := 55) C d_M_isAhead_51 (by decide) ?_
        refine g_zret C hr hk (by omega) d_M_isAhead_55 ⟨_, rfl, ?_⟩
        first
          | exact ⟨rfl, Or.inl ⟨rfl, by omega⟩⟩
          | exact ⟨rfl, Or.inr ⟨rfl, by omega⟩⟩
  · refine g_iload_n C d_M_isAhead_11 rfl rfl ?_
    refine g_aload_n C d_M_isAhead_12 rfl rfl ?_
    refine g_get C 0 8 i_M wY_0 rfl (by decide) k_M_26 rfl rfl d_M_isAhead_13 rfl ?_
    refine g_iload C d_M_isAhead_16 rfl rfl ?_
    refine g_iald C 6 0 wY_6 rfl (by omega) (by omega) (by decide) d_M_isAhead_18 rfl ?_
    refine g_icmp_ge (tgt := 26) C d_M_isAhead_19 (by decide) rfl (by omega) (by omega) (fun h19 => ?_) (fun h19 => ?_)
    · refine g_iconst (z := 0) C d_M_isAhead_26 rfl rfl ?_
      refine g_zret C hr hk (by omega) d_M_isAhead_27 ⟨_, rfl, ?_⟩
      first
        | exact ⟨rfl, Or.inl ⟨rfl, by omega⟩⟩
        | exact ⟨rfl, Or.inr ⟨rfl, by omega⟩⟩
    · refine g_iconst (z := 1) C d_M_isAhead_22 rfl rfl ?_
      refine g_goto (tgt := 27) C d_M_isAhead_23 (by decide) ?_
      refine g_zret C hr hk (by omega) d_M_isAhead_27 ⟨_, rfl, ?_⟩
      first
        | exact ⟨rfl, Or.inl ⟨rfl, by omega⟩⟩
        | exact ⟨rfl, Or.inr ⟨rfl, by omega⟩⟩

