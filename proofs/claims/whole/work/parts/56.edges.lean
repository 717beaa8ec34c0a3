/-! the class: edges, and the least ways over them -/
/-- the edges as the arrays hold them: E of them -/
def edS (S : Nat → Int → Int) (E : Nat) (p : Int → Int) : Prop := S 27 0 = E ∧ ed E (S 21) (S 22) (S 23) (S 24) p ∧ (0 ≤ S 28 0 ∧ S 28 0 < 16) ∧ ∀ g : Int, 0 ≤ g → g < E → 0 ≤ S 24 g ∧ S 24 g ≤ 20
abbrev saS (S : Nat → Int → Int) (g : Int) : Prop := sa (S 21) (S 22) (S 23) (S 24) (S 25) g

set_option maxRecDepth 100000 in
set_option maxHeartbeats 4000000 in
theorem m_F_entry {l : Launch} {D : va_G} {a : Nat → Nat} {ki kz kl kq : ClassId} {S : Nat → Int → Int} {z : Int}  : MX l D a ki kz kl kq y_F_entry b_F_entry 1 (some .int) rm_F_entry [.int (iI z)] S (pI fun r S' => S' = S ∧ r = 2 * z) := by
  refine MM.go b_F_entry 1 (some .int) "NextPaths$Flow" [(0, .int (iI z))] (by decide) rfl rfl (Nat.le_of_ble_eq_true rfl) ?_
  intro p e s m args below meth c C hr hk
  refine g_iconst (z := 2) C d_F_entry_0 rfl rfl ?_
  refine g_iload_n C d_F_entry_1 rfl rfl ?_
  refine g_imul C d_F_entry_2 rfl rfl ?_
  refine g_iret C hr hk d_F_entry_3 ⟨_, rfl, ?_⟩
  exact ⟨rfl, rfl⟩

set_option maxRecDepth 100000 in
set_option maxHeartbeats 4000000 in
theorem m_F_exit {l : Launch} {D : va_G} {a : Nat → Nat} {ki kz kl kq : ClassId} {S : Nat → Int → Int} {z : Int}  : MX l D a ki kz kl kq y_F_exit b_F_exit 1 (some .int) rm_F_exit [.int (iI z)] S (pI fun r S' => S' = S ∧ r = 2 * z + 1) := by
  refine MM.go b_F_exit 1 (some .int) "NextPaths$Flow" [(0, .int (iI z))] (by decide) rfl rfl (Nat.le_of_ble_eq_true rfl) ?_
  intro p e s m args below meth c C hr hk
  refine g_iconst (z := 2) C d_F_exit_0 rfl rfl ?_
  refine g_iload_n C d_F_exit_1 rfl rfl ?_
  refine g_imul C d_F_exit_2 rfl rfl ?_
  refine g_iconst (z := 1) C d_F_exit_3 rfl rfl ?_
  refine g_iadd C d_F_exit_4 rfl rfl ?_
  refine g_iret C hr hk d_F_exit_5 ⟨_, rfl, ?_⟩
  exact ⟨rfl, rfl⟩

set_option maxRecDepth 100000 in
set_option maxHeartbeats 4000000 in
theorem m_F_setEdge {l : Launch} {D : va_G} {a : Nat → Nat} {ki kz kl kq : ClassId} {S : Nat → Int → Int} {g z1 z2 z3 z4 : Int} (hg : 0 ≤ g ∧ g < 56) : MX l D a ki kz kl kq y_F_setEdge b_F_setEdge 6 none rm_F_setEdge [.ref (a 27), .int (iI g), .int (iI z1), .int (iI z2), .int (iI z3), .int (iI z4)] S (pV fun S' => S' = us (us (us (us S 21 g z1) 22 g z2) 23 g z3) 24 g z4) := by
  refine MM.go b_F_setEdge 6 none "NextPaths$Flow" [(0, .ref (a 27)), (1, .int (iI g)), (2, .int (iI z1)), (3, .int (iI z2)), (4, .int (iI z3)), (5, .int (iI z4))] (by decide) rfl rfl (Nat.le_of_ble_eq_true rfl) ?_
  intro p e s m args below meth c C hr hk
  refine g_aload_n C d_F_setEdge_0 rfl rfl ?_
  refine g_get C 27 1 i_F wX_27 rfl (by decide) k_F_11 rfl rfl d_F_setEdge_1 rfl ?_
  refine g_iload_n C d_F_setEdge_4 rfl rfl ?_
  refine g_iload_n C d_F_setEdge_5 rfl rfl ?_
  refine g_iast C 28 0 wX_28 rfl (by omega) (by omega) (by decide) wX_s28 d_F_setEdge_6 rfl ?_
  refine g_aload_n C d_F_setEdge_7 rfl rfl ?_
  refine g_get C 27 2 i_F wX_27 rfl (by decide) k_F_15 rfl rfl d_F_setEdge_8 rfl ?_
  refine g_iload_n C d_F_setEdge_11 rfl rfl ?_
  refine g_iload_n C d_F_setEdge_12 rfl rfl ?_
  refine g_iast C 29 0 wX_29 rfl (by omega) (by omega) (by decide) wX_s29 d_F_setEdge_13 rfl ?_
  refine g_aload_n C d_F_setEdge_14 rfl rfl ?_
  refine g_get C 27 3 i_F wX_27 rfl (by decide) k_F_18 rfl rfl d_F_setEdge_15 rfl ?_
  refine g_iload_n C d_F_setEdge_18 rfl rfl ?_
  refine g_iload C d_F_setEdge_19 rfl rfl ?_
  refine g_iast C 30 0 wX_30 rfl (by omega) (by omega) (by decide) wX_s30 d_F_setEdge_21 rfl ?_
  refine g_aload_n C d_F_setEdge_22 rfl rfl ?_
  refine g_get C 27 4 i_F wX_27 rfl (by decide) k_F_21 rfl rfl d_F_setEdge_23 rfl ?_
  refine g_iload_n C d_F_setEdge_26 rfl rfl ?_
  refine g_iload C d_F_setEdge_27 rfl rfl ?_
  refine g_iast C 31 0 wX_31 rfl (by omega) (by omega) (by decide) wX_s31 d_F_setEdge_29 rfl ?_
  refine g_vret C hr hk d_F_setEdge_30 ⟨rfl, ?_⟩
  rfl

/-- one edge more, and its way back -/
def adE (S : Nat → Int → Int) (g z1 z2 z3 z4 : Int) : Nat → Int → Int := us (us (us (us (us (us (us (us (us S 21 g z1) 22 g z2) 23 g z3) 24 g z4) 21 (g + 1) z2) 22 (g + 1) z1) 23 (g + 1) (-z3)) 24 (g + 1) 0) 27 0 (g + 2)

set_option maxRecDepth 100000 in
set_option maxHeartbeats 4000000 in
theorem m_F_addEdge {l : Launch} {D : va_G} {a : Nat → Nat} {ki kz kl kq : ClassId} {S : Nat → Int → Int} {g z1 z2 z3 z4 : Int} (hs : S 27 0 = g) (hg : 0 ≤ g ∧ g + 2 ≤ 56) : MX l D a ki kz kl kq y_F_addEdge b_F_addEdge 5 none rm_F_addEdge [.ref (a 27), .int (iI z1), .int (iI z2), .int (iI z3), .int (iI z4)] S (pV fun S' => S' = adE S g z1 z2 z3 z4) := by
  refine MM.go b_F_addEdge 5 none "NextPaths$Flow" [(0, .ref (a 27)), (1, .int (iI z1)), (2, .int (iI z2)), (3, .int (iI z3)), (4, .int (iI z4))] (by decide) rfl rfl (Nat.le_of_ble_eq_true rfl) ?_
  intro p e s m args below meth c C hr hk
  refine g_aload_n C d_F_addEdge_0 rfl rfl ?_
  refine g_get C 27 7 i_F wX_27 rfl (by decide) k_F_34 rfl rfl d_F_addEdge_1 rfl ?_
  refine g_v (z' := g) hs ?_
  refine g_iconst (z := 2) C d_F_addEdge_4 rfl rfl ?_
  refine g_iadd C d_F_addEdge_5 rfl rfl ?_
  refine g_bipush (z := 56) C d_F_addEdge_6 rfl (by decide) ?_
  refine g_icmp_le (tgt := 12) C d_F_addEdge_8 (by decide) rfl (by omega) (by omega) (fun h8 => ?_) (fun h8 => ?_)
  · refine g_aload_n C d_F_addEdge_12 rfl rfl ?_
    refine g_aload_n C d_F_addEdge_13 rfl rfl ?_
    refine g_get C 27 7 i_F wX_27 rfl (by decide) k_F_34 rfl rfl d_F_addEdge_14 rfl ?_
    refine g_v (z' := g) hs ?_
    refine g_iload_n C d_F_addEdge_17 rfl rfl ?_
    refine g_iload_n C d_F_addEdge_18 rfl rfl ?_
    refine g_iload_n C d_F_addEdge_19 rfl rfl ?_
    refine g_iload C d_F_addEdge_20 rfl rfl ?_
    refine g_runV (wX_fix a ki kz kl kq) rfl (rn_V C (m_F_setEdge (by omega)) 27 5 wX_27 rfl rfl kc_F_setEdge k_F_76 ki_F_setEdge kx_F_setEdge kn_F hy_F_setEdge ⟨rfl, rfl⟩ ⟨by decide, by decide⟩ ⟨Nat.le_refl _, Nat.le_refl _⟩ rfl rfl (Nat.le_of_ble_eq_true rfl) d_F_addEdge_22) (fun S1 hp => ?_)
    subst hp
    refine g_aload_n C d_F_addEdge_25 rfl rfl ?_
    refine g_aload_n C d_F_addEdge_26 rfl rfl ?_
    refine g_get C 27 7 i_F wX_27 rfl (by decide) k_F_34 rfl rfl d_F_addEdge_27 rfl ?_
    refine g_v (z' := g) (by rw [us_n (by decide), us_n (by decide), us_n (by decide), us_n (by decide)]; exact hs) ?_
    refine g_iconst (z := 1) C d_F_addEdge_30 rfl rfl ?_
    refine g_iadd C d_F_addEdge_31 rfl rfl ?_
    refine g_iload_n C d_F_addEdge_32 rfl rfl ?_
    refine g_iload_n C d_F_addEdge_33 rfl rfl ?_
    refine g_iload_n C d_F_addEdge_34 rfl rfl ?_
    refine g_ineg C d_F_addEdge_35 rfl rfl ?_
    refine g_iconst (z := 0) C d_F_addEdge_36 rfl rfl ?_
    refine g_runV (wX_fix a ki kz kl kq) rfl (rn_V C (m_F_setEdge (by omega)) 27 5 wX_27 rfl rfl kc_F_setEdge k_F_76 ki_F_setEdge kx_F_setEdge kn_F hy_F_setEdge ⟨rfl, rfl⟩ ⟨by decide, by decide⟩ ⟨Nat.le_refl _, Nat.le_refl _⟩ rfl rfl (Nat.le_of_ble_eq_true rfl) d_F_addEdge_37) (fun S1 hp => ?_)
    subst hp
    refine g_aload_n C d_F_addEdge_40 rfl rfl ?_
    refine g_dup C d_F_addEdge_41 rfl rfl ?_
    refine g_get C 27 7 i_F wX_27 rfl (by decide) k_F_34 rfl rfl d_F_addEdge_42 rfl ?_
    refine g_v (z' := g) (by rw [us_n (by decide), us_n (by decide), us_n (by decide), us_n (by decide), us_n (by decide), us_n (by decide), us_n (by decide), us_n (by decide)]; exact hs) ?_
    refine g_iconst (z := 2) C d_F_addEdge_45 rfl rfl ?_
    refine g_iadd C d_F_addEdge_46 rfl rfl ?_
    refine g_put (ty := .int) C 27 7 ty_F i_F ty_F_ok n_F wX_27 rfl (by decide) k_F_34 rfl rfl (by decide +kernel) rfl rfl (Nat.le_of_ble_eq_true rfl) wX_p27_7 d_F_addEdge_47 rfl ?_
    refine g_vret C hr hk d_F_addEdge_50 ⟨rfl, ?_⟩
    rfl
  · exact absurd h8 (by omega)

set_option maxRecDepth 100000 in
set_option maxHeartbeats 4000000 in
theorem m_F_tryEdge {l : Launch} {D : va_G} {a : Nat → Nat} {ki kz kl kq : ClassId} {S : Nat → Int → Int} {g t : Int} {E : Nat} {q : Int → Int} (hE : edS S E q) (hg : 0 ≤ g ∧ g < E) (hb : bd_ (S 25) t) (ht : t < 900) : MX l D a ki kz kl kq y_F_tryEdge b_F_tryEdge 4 (some .boolean) rm_F_tryEdge [.ref (a 27), .int (iI g)] S (pI fun r S' => (r = 0 ∧ S' = S ∧ saS S g) ∨ (r = 1 ∧ ¬ saS S g ∧ S' = us (us S 25 (S 22 g) (S 25 (S 21 g) + S 23 g)) 26 (S 22 g) g)) := by
  refine MM.go b_F_tryEdge 4 (some .boolean) "NextPaths$Flow" [(0, .ref (a 27)), (1, .int (iI g))] (by decide) rfl rfl (Nat.le_of_ble_eq_true rfl) ?_
  intro p e s m args below meth c C hr hk
  obtain ⟨k1, k2, k3⟩ := hE
  have k4 := k2.2.1 g hg.1 hg.2
  have k5 := k3.2 g hg.1 hg.2
  have k6 := k2.1
  have k7 := hb (S 21 g) (by omega) (by omega)
  have k8 := hb (S 22 g) (by omega) (by omega)
  unfold far at k7 k8
  refine g_aload_n C d_F_tryEdge_0 rfl rfl ?_
  refine g_get C 27 1 i_F wX_27 rfl (by decide) k_F_11 rfl rfl d_F_tryEdge_1 rfl ?_
  refine g_iload_n C d_F_tryEdge_4 rfl rfl ?_
  refine g_iald C 28 0 wX_28 rfl (by omega) (by omega) (by decide) d_F_tryEdge_5 rfl ?_
  refine g_nm (fun u1 e_u1 => ?_)
  refine g_istore_n (lv' := [(2, .int (iI u1)), (0, .ref (a 27)), (1, .int (iI g))]) C d_F_tryEdge_6 (by decide) rfl rfl ?_
  refine g_aload_n C d_F_tryEdge_7 rfl rfl ?_
  refine g_get C 27 2 i_F wX_27 rfl (by decide) k_F_15 rfl rfl d_F_tryEdge_8 rfl ?_
  refine g_iload_n C d_F_tryEdge_11 rfl rfl ?_
  refine g_iald C 29 0 wX_29 rfl (by omega) (by omega) (by decide) d_F_tryEdge_12 rfl ?_
  refine g_nm (fun v1 e_v1 => ?_)
  refine g_istore_n (lv' := [(3, .int (iI v1)), (2, .int (iI u1)), (0, .ref (a 27)), (1, .int (iI g))]) C d_F_tryEdge_13 (by decide) rfl rfl ?_
  refine g_aload_n C d_F_tryEdge_14 rfl rfl ?_
  refine g_get C 27 4 i_F wX_27 rfl (by decide) k_F_21 rfl rfl d_F_tryEdge_15 rfl ?_
  refine g_iload_n C d_F_tryEdge_18 rfl rfl ?_
  refine g_iald C 31 0 wX_31 rfl (by omega) (by omega) (by decide) d_F_tryEdge_19 rfl ?_
  refine g_if_le (tgt := 56) C d_F_tryEdge_20 (by decide) rfl (by omega) (fun h20 => ?_) (fun h20 => ?_)
  · refine g_iconst (z := 0) C d_F_tryEdge_56 rfl rfl ?_
    refine g_zret C hr hk (by omega) d_F_tryEdge_57 ⟨_, rfl, ?_⟩
    refine Or.inl ⟨rfl, rfl, ?_⟩
    unfold saS sa far
    first
      | (left; omega)
      | (right; left; omega)
      | (right; right; omega)
  · refine g_aload_n C d_F_tryEdge_23 rfl rfl ?_
    refine g_get C 27 5 i_F wX_27 rfl (by decide) k_F_24 rfl rfl d_F_tryEdge_24 rfl ?_
    refine g_iload_n C d_F_tryEdge_27 rfl rfl ?_
    refine g_iald C 32 0 wX_32 rfl (by omega) (by omega) (by decide) d_F_tryEdge_28 rfl ?_
    refine g_v (z' := S 25 (S 21 g)) (by rw [e_u1]) ?_
    refine g_ldc (z := 1000000) C k_F_83 d_F_tryEdge_29 rfl ?_
    refine g_icmp_ge (tgt := 56) C d_F_tryEdge_31 (by decide) rfl (by omega) (by omega) (fun h31 => ?_) (fun h31 => ?_)
    · refine g_iconst (z := 0) C d_F_tryEdge_56 rfl rfl ?_
      refine g_zret C hr hk (by omega) d_F_tryEdge_57 ⟨_, rfl, ?_⟩
      refine Or.inl ⟨rfl, rfl, ?_⟩
      unfold saS sa far
      first
        | (left; omega)
        | (right; left; omega)
        | (right; right; omega)
    · refine g_aload_n C d_F_tryEdge_34 rfl rfl ?_
      refine g_get C 27 5 i_F wX_27 rfl (by decide) k_F_24 rfl rfl d_F_tryEdge_35 rfl ?_
      refine g_iload_n C d_F_tryEdge_38 rfl rfl ?_
      refine g_iald C 32 0 wX_32 rfl (by omega) (by omega) (by decide) d_F_tryEdge_39 rfl ?_
      refine g_v (z' := S 25 (S 21 g)) (by rw [e_u1]) ?_
      refine g_aload_n C d_F_tryEdge_40 rfl rfl ?_
      refine g_get C 27 3 i_F wX_27 rfl (by decide) k_F_18 rfl rfl d_F_tryEdge_41 rfl ?_
      refine g_iload_n C d_F_tryEdge_44 rfl rfl ?_
      refine g_iald C 30 0 wX_30 rfl (by omega) (by omega) (by decide) d_F_tryEdge_45 rfl ?_
      refine g_iadd C d_F_tryEdge_46 rfl rfl ?_
      refine g_aload_n C d_F_tryEdge_47 rfl rfl ?_
      refine g_get C 27 5 i_F wX_27 rfl (by decide) k_F_24 rfl rfl d_F_tryEdge_48 rfl ?_
      refine g_iload_n C d_F_tryEdge_51 rfl rfl ?_
      refine g_iald C 32 0 wX_32 rfl (by omega) (by omega) (by decide) d_F_tryEdge_52 rfl ?_
      refine g_v (z' := S 25 (S 22 g)) (by rw [e_v1]) ?_
      refine g_icmp_lt (tgt := 58) C d_F_tryEdge_53 (by decide) rfl (by omega) (by omega) (fun h53 => ?_) (fun h53 => ?_)
      · refine g_aload_n C d_F_tryEdge_58 rfl rfl ?_
        refine g_get C 27 5 i_F wX_27 rfl (by decide) k_F_24 rfl rfl d_F_tryEdge_59 rfl ?_
        refine g_iload_n C d_F_tryEdge_62 rfl rfl ?_
        refine g_aload_n C d_F_tryEdge_63 rfl rfl ?_
        refine g_get C 27 5 i_F wX_27 rfl (by decide) k_F_24 rfl rfl d_F_tryEdge_64 rfl ?_
        refine g_iload_n C d_F_tryEdge_67 rfl rfl ?_
        refine g_iald C 32 0 wX_32 rfl (by omega) (by omega) (by decide) d_F_tryEdge_68 rfl ?_
        refine g_v (z' := S 25 (S 21 g)) (by rw [e_u1]) ?_
        refine g_aload_n C d_F_tryEdge_69 rfl rfl ?_
        refine g_get C 27 3 i_F wX_27 rfl (by decide) k_F_18 rfl rfl d_F_tryEdge_70 rfl ?_
        refine g_iload_n C d_F_tryEdge_73 rfl rfl ?_
        refine g_iald C 30 0 wX_30 rfl (by omega) (by omega) (by decide) d_F_tryEdge_74 rfl ?_
        refine g_iadd C d_F_tryEdge_75 rfl rfl ?_
        refine g_iast C 32 0 wX_32 rfl (by omega) (by omega) (by decide) wX_s32 d_F_tryEdge_76 rfl ?_
        refine g_aload_n C d_F_tryEdge_77 rfl rfl ?_
        refine g_get C 27 6 i_F wX_27 rfl (by decide) k_F_27 rfl rfl d_F_tryEdge_78 rfl ?_
        refine g_iload_n C d_F_tryEdge_81 rfl rfl ?_
        refine g_iload_n C d_F_tryEdge_82 rfl rfl ?_
        refine g_iast C 33 0 wX_33 rfl (by omega) (by omega) (by decide) wX_s33 d_F_tryEdge_83 rfl ?_
        refine g_iconst (z := 1) C d_F_tryEdge_84 rfl rfl ?_
        refine g_zret C hr hk (by omega) d_F_tryEdge_85 ⟨_, rfl, ?_⟩
        subst e_v1
        subst e_u1
        refine Or.inr ⟨rfl, fun q => ?_, rfl⟩
        unfold saS sa far at q
        omega
      · refine g_iconst (z := 0) C d_F_tryEdge_56 rfl rfl ?_
        refine g_zret C hr hk (by omega) d_F_tryEdge_57 ⟨_, rfl, ?_⟩
        refine Or.inl ⟨rfl, rfl, ?_⟩
        unfold saS sa far
        first
          | (left; omega)
          | (right; left; omega)
          | (right; right; omega)

