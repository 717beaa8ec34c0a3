/-! the reference: the most paths -/
def fb (s : Nat) (k : Int) : Bool := s.testBit k.toNat
theorem fb_1 {s : Nat} {k : Int} : ((s / 2 ^ k.toNat % 2 : Nat) : Int) = 1 ↔ fb s k = true := tb_1
theorem fb_0 {s : Nat} {k : Int} : ((s / 2 ^ k.toNat % 2 : Nat) : Int) = 0 ↔ fb s k = false := tb_0
theorem fb_n1 {s : Nat} {k : Int} : ((s / 2 ^ k.toNat % 2 : Nat) : Int) ≠ 1 ↔ fb s k = false := by
  rw [Ne, fb_1]; cases fb s k <;> simp
theorem fb_n0 {s : Nat} {k : Int} : ((s / 2 ^ k.toNat % 2 : Nat) : Int) ≠ 0 ↔ fb s k = true := by
  rw [Ne, fb_0]; cases fb s k <;> simp
theorem fb_r {s : Nat} {k : Int} : r32 ((s / 2 ^ k.toNat % 2 : Nat) : Int) := by omega
theorem sm1_le {c : Int → Prop} [∀ k, Decidable (c k)] : ∀ n : Nat, 0 ≤ sm (fun k => if c k then 1 else 0) n ∧ sm (fun k => if c k then 1 else 0) n ≤ n
  | 0 => by simp [sm]
  | n + 1 => by
    have := sm1_le (c := c) n
    simp only [sm]
    split <;> omega
abbrev ouS (S : Nat → Int → Int) (n : Nat) (m : Int → Bool) : Int := ou n (S 2) (S 3) (S 6) m

set_option maxRecDepth 100000 in
set_option maxHeartbeats 4000000 in
theorem lo_M_out {l : Launch} {D : va_G} {a : Nat → Nat} {ki kz kl kq : ClassId} {p : Program} {e : Env} {s : State} {m : MethodId} {args : Array Value} {below : List Frame} {meth : Method} {c : Code} {S : Nat → Int → Int} {g : Nat} (hG : GJ S) (hs31 : g < 2147483648) (C : CX p s m args c b_M_out 4 "NextPathsModel" TT D cls (tyz ki kz kl kq)) (hr : meth.sig.returnType = (some .int)) (hk : meth.locks = false) : ∀ (k i : Nat), i ≤ (S 1 0).toNat → (S 1 0).toNat ≤ i + k → GG p l e rm_M_out s m args below meth c D cls (adr (wY a ki kz kl kq S)) 4 0 0 (MQ below (QcW D cls (wY a ki kz kl kq) S (pI fun r S' => S' = S ∧ r = ou (S 1 0).toNat (S 2) (S 3) (S 6) (fb g))) args s 0 0 (adr (wY a ki kz kl kq S))) (wY a ki kz kl kq) S [(3, .int (iI (i : Int))), (2, .int (iI (ou i (S 2) (S 3) (S 6) (fb g)))), (0, .ref (a 0)), (1, .int (iI (g : Int)))] 4 [] := by
  intro k
  induction k with
  | zero =>
    intro i hi hk0
    have hn20 := hG.2.1
    have hgk := hG.2.2.2.2.1 i
    have hob : 0 ≤ ou i (S 2) (S 3) (S 6) (fb g) ∧ ou i (S 2) (S 3) (S 6) (fb g) ≤ i := sm1_le i
    refine g_iload_n C d_M_out_4 rfl rfl ?_
    refine g_aload_n C d_M_out_5 rfl rfl ?_
    refine g_get C 0 1 i_M wY_0 rfl (by decide) k_M_73 rfl rfl d_M_out_6 rfl ?_
    refine g_icmp_ge (tgt := 62) C d_M_out_9 (by decide) rfl (by omega) (by omega) (fun h9 => ?_) (fun h9 => ?_)
    · refine g_iload_n C d_M_out_62 rfl rfl ?_
      refine g_iret C hr hk d_M_out_63 ⟨_, rfl, ?_⟩
      have hi2 : i = (S 1 0).toNat := by omega
      subst hi2
      exact ⟨rfl, rfl⟩
    · exact absurd h9 (by omega)
  | succ k ih =>
    intro i hi hk0
    have hn20 := hG.2.1
    have hgk := hG.2.2.2.2.1 i
    have hob : 0 ≤ ou i (S 2) (S 3) (S 6) (fb g) ∧ ou i (S 2) (S 3) (S 6) (fb g) ≤ i := sm1_le i
    refine g_iload_n C d_M_out_4 rfl rfl ?_
    refine g_aload_n C d_M_out_5 rfl rfl ?_
    refine g_get C 0 1 i_M wY_0 rfl (by decide) k_M_73 rfl rfl d_M_out_6 rfl ?_
    refine g_icmp_ge (tgt := 62) C d_M_out_9 (by decide) rfl (by omega) (by omega) (fun h9 => ?_) (fun h9 => ?_)
    · refine g_iload_n C d_M_out_62 rfl rfl ?_
      refine g_iret C hr hk d_M_out_63 ⟨_, rfl, ?_⟩
      have hi2 : i = (S 1 0).toNat := by omega
      subst hi2
      exact ⟨rfl, rfl⟩
    · refine g_iload_n C d_M_out_12 rfl rfl ?_
      refine g_aload_n C d_M_out_13 rfl rfl ?_
      refine g_get C 0 6 i_M wY_0 rfl (by decide) k_M_22 rfl rfl d_M_out_14 rfl ?_
      refine g_iload_n C d_M_out_17 rfl rfl ?_
      refine g_zald C 5 1 wY_5 rfl (by omega) (by omega) (by decide) d_M_out_18 rfl ?_
      refine g_if_ne (tgt := 53) C d_M_out_19 (by decide) rfl (by omega) (fun h19 => ?_) (fun h19 => ?_)
      · refine g_iconst (z := 0) C d_M_out_53 rfl rfl ?_
        refine g_iadd C d_M_out_54 rfl rfl ?_
        refine g_nm (fun r2 e_r2 => ?_)
        refine g_istore_n (lv' := [(2, .int (iI r2)), (3, .int (iI (i : Int))), (0, .ref (a 0)), (1, .int (iI (g : Int)))]) C d_M_out_55 (by decide) rfl rfl ?_
        obtain ⟨i2, e_i2⟩ : ∃ z : Int, z = (i : Int) + 1 := ⟨_, rfl⟩
        refine g_iinc (q := 1) (z := i2) (lv' := [(3, .int (iI i2)), (2, .int (iI r2)), (0, .ref (a 0)), (1, .int (iI (g : Int)))]) C d_M_out_56 rfl e_i2.symm (by decide) rfl rfl ?_
        refine g_goto (tgt := 4) C d_M_out_59 (by decide) ?_
        refine GG.lvs (lv' := [(3, .int (iI ((i + 1 : Nat) : Int))), (2, .int (iI (ou (i + 1) (S 2) (S 3) (S 6) (fb g)))), (0, .ref (a 0)), (1, .int (iI (g : Int)))]) ?_ (ih (i + 1) (by omega) (by omega))
        have q1 : i2 = ((i + 1 : Nat) : Int) := by omega
        have q2 : r2 = ou (i + 1) (S 2) (S 3) (S 6) (fb g) := by
          rw [e_r2]
          show _ = ou i (S 2) (S 3) (S 6) (fb g) + (if S 6 i = 0 ∧ fb g (S 2 i) = true ∧ fb g (S 3 i) = false then 1 else 0)
          first
            | (have hh : S 6 i = 0 ∧ fb g (S 2 i) = true ∧ fb g (S 3 i) = false := And.intro h19 (And.intro (fb_1.mp h33) (fb_0.mp h46)); rw [if_pos hh])
            | (have hh : ¬ (S 6 i = 0 ∧ fb g (S 2 i) = true ∧ fb g (S 3 i) = false) := fun q => h19 q.1; rw [if_neg hh])
            | (have hh : ¬ (S 6 i = 0 ∧ fb g (S 2 i) = true ∧ fb g (S 3 i) = false) := fun q => h33 (fb_1.mpr q.2.1); rw [if_neg hh])
            | (have hh : ¬ (S 6 i = 0 ∧ fb g (S 2 i) = true ∧ fb g (S 3 i) = false) := fun q => h46 (fb_0.mpr q.2.2); rw [if_neg hh])
        rw [q1, q2]
        simp [lk]
      · refine g_iload_n C d_M_out_22 rfl rfl ?_
        refine g_aload_n C d_M_out_23 rfl rfl ?_
        refine g_get C 0 2 i_M wY_0 rfl (by decide) k_M_7 rfl rfl d_M_out_24 rfl ?_
        refine g_iload_n C d_M_out_27 rfl rfl ?_
        refine g_iald C 1 0 wY_1 rfl (by omega) (by omega) (by decide) d_M_out_28 rfl ?_
        refine g_ishr (z := ((g / 2 ^ (S 2 i).toNat : Nat) : Int)) C d_M_out_29 (ishr_ok hs31 (by omega) (by omega)) rfl ?_
        refine g_iconst (z := 1) C d_M_out_30 rfl rfl ?_
        refine g_iand (z := ((g / 2 ^ (S 2 i).toNat % 2 : Nat) : Int)) C d_M_out_31 iand1_ok rfl ?_
        refine g_iconst (z := 1) C d_M_out_32 rfl rfl ?_
        refine g_icmp_ne (tgt := 53) C d_M_out_33 (by decide) rfl fb_r (by omega) (fun h33 => ?_) (fun h33 => ?_)
        · refine g_iconst (z := 0) C d_M_out_53 rfl rfl ?_
          refine g_iadd C d_M_out_54 rfl rfl ?_
          refine g_nm (fun r2 e_r2 => ?_)
          refine g_istore_n (lv' := [(2, .int (iI r2)), (3, .int (iI (i : Int))), (0, .ref (a 0)), (1, .int (iI (g : Int)))]) C d_M_out_55 (by decide) rfl rfl ?_
          obtain ⟨i2, e_i2⟩ : ∃ z : Int, z = (i : Int) + 1 := ⟨_, rfl⟩
          refine g_iinc (q := 1) (z := i2) (lv' := [(3, .int (iI i2)), (2, .int (iI r2)), (0, .ref (a 0)), (1, .int (iI (g : Int)))]) C d_M_out_56 rfl e_i2.symm (by decide) rfl rfl ?_
          refine g_goto (tgt := 4) C d_M_out_59 (by decide) ?_
          refine GG.lvs (lv' := [(3, .int (iI ((i + 1 : Nat) : Int))), (2, .int (iI (ou (i + 1) (S 2) (S 3) (S 6) (fb g)))), (0, .ref (a 0)), (1, .int (iI (g : Int)))]) ?_ (ih (i + 1) (by omega) (by omega))
          have q1 : i2 = ((i + 1 : Nat) : Int) := by omega
          have q2 : r2 = ou (i + 1) (S 2) (S 3) (S 6) (fb g) := by
            rw [e_r2]
            show _ = ou i (S 2) (S 3) (S 6) (fb g) + (if S 6 i = 0 ∧ fb g (S 2 i) = true ∧ fb g (S 3 i) = false then 1 else 0)
            first
              | (have hh : S 6 i = 0 ∧ fb g (S 2 i) = true ∧ fb g (S 3 i) = false := And.intro h19 (And.intro (fb_1.mp h33) (fb_0.mp h46)); rw [if_pos hh])
              | (have hh : ¬ (S 6 i = 0 ∧ fb g (S 2 i) = true ∧ fb g (S 3 i) = false) := fun q => h19 q.1; rw [if_neg hh])
              | (have hh : ¬ (S 6 i = 0 ∧ fb g (S 2 i) = true ∧ fb g (S 3 i) = false) := fun q => h33 (fb_1.mpr q.2.1); rw [if_neg hh])
              | (have hh : ¬ (S 6 i = 0 ∧ fb g (S 2 i) = true ∧ fb g (S 3 i) = false) := fun q => h46 (fb_0.mpr q.2.2); rw [if_neg hh])
          rw [q1, q2]
          simp [lk]
        · refine g_iload_n C d_M_out_36 rfl rfl ?_
          refine g_aload_n C d_M_out_37 rfl rfl ?_
          refine g_get C 0 3 i_M wY_0 rfl (by decide) k_M_13 rfl rfl d_M_out_38 rfl ?_
          refine g_iload_n C d_M_out_41 rfl rfl ?_
          refine g_iald C 2 0 wY_2 rfl (by omega) (by omega) (by decide) d_M_out_42 rfl ?_
          refine g_ishr (z := ((g / 2 ^ (S 3 i).toNat : Nat) : Int)) C d_M_out_43 (ishr_ok hs31 (by omega) (by omega)) rfl ?_
          refine g_iconst (z := 1) C d_M_out_44 rfl rfl ?_
          refine g_iand (z := ((g / 2 ^ (S 3 i).toNat % 2 : Nat) : Int)) C d_M_out_45 iand1_ok rfl ?_
          refine g_if_ne (tgt := 53) C d_M_out_46 (by decide) rfl fb_r (fun h46 => ?_) (fun h46 => ?_)
          · refine g_iconst (z := 0) C d_M_out_53 rfl rfl ?_
            refine g_iadd C d_M_out_54 rfl rfl ?_
            refine g_nm (fun r2 e_r2 => ?_)
            refine g_istore_n (lv' := [(2, .int (iI r2)), (3, .int (iI (i : Int))), (0, .ref (a 0)), (1, .int (iI (g : Int)))]) C d_M_out_55 (by decide) rfl rfl ?_
            obtain ⟨i2, e_i2⟩ : ∃ z : Int, z = (i : Int) + 1 := ⟨_, rfl⟩
            refine g_iinc (q := 1) (z := i2) (lv' := [(3, .int (iI i2)), (2, .int (iI r2)), (0, .ref (a 0)), (1, .int (iI (g : Int)))]) C d_M_out_56 rfl e_i2.symm (by decide) rfl rfl ?_
            refine g_goto (tgt := 4) C d_M_out_59 (by decide) ?_
            refine GG.lvs (lv' := [(3, .int (iI ((i + 1 : Nat) : Int))), (2, .int (iI (ou (i + 1) (S 2) (S 3) (S 6) (fb g)))), (0, .ref (a 0)), (1, .int (iI (g : Int)))]) ?_ (ih (i + 1) (by omega) (by omega))
            have q1 : i2 = ((i + 1 : Nat) : Int) := by omega
            have q2 : r2 = ou (i + 1) (S 2) (S 3) (S 6) (fb g) := by
              rw [e_r2]
              show _ = ou i (S 2) (S 3) (S 6) (fb g) + (if S 6 i = 0 ∧ fb g (S 2 i) = true ∧ fb g (S 3 i) = false then 1 else 0)
              first
                | (have hh : S 6 i = 0 ∧ fb g (S 2 i) = true ∧ fb g (S 3 i) = false := And.intro h19 (And.intro (fb_1.mp h33) (fb_0.mp h46)); rw [if_pos hh])
                | (have hh : ¬ (S 6 i = 0 ∧ fb g (S 2 i) = true ∧ fb g (S 3 i) = false) := fun q => h19 q.1; rw [if_neg hh])
                | (have hh : ¬ (S 6 i = 0 ∧ fb g (S 2 i) = true ∧ fb g (S 3 i) = false) := fun q => h33 (fb_1.mpr q.2.1); rw [if_neg hh])
                | (have hh : ¬ (S 6 i = 0 ∧ fb g (S 2 i) = true ∧ fb g (S 3 i) = false) := fun q => h46 (fb_0.mpr q.2.2); rw [if_neg hh])
            rw [q1, q2]
            simp [lk]
          · refine g_iconst (z := 1) C d_M_out_49 rfl rfl ?_
            refine g_goto (tgt := 54) C d_M_out_50 (by decide) ?_
            refine g_iadd C d_M_out_54 rfl rfl ?_
            refine g_nm (fun r2 e_r2 => ?_)
            refine g_istore_n (lv' := [(2, .int (iI r2)), (3, .int (iI (i : Int))), (0, .ref (a 0)), (1, .int (iI (g : Int)))]) C d_M_out_55 (by decide) rfl rfl ?_
            obtain ⟨i2, e_i2⟩ : ∃ z : Int, z = (i : Int) + 1 := ⟨_, rfl⟩
            refine g_iinc (q := 1) (z := i2) (lv' := [(3, .int (iI i2)), (2, .int (iI r2)), (0, .ref (a 0)), (1, .int (iI (g : Int)))]) C d_M_out_56 rfl e_i2.symm (by decide) rfl rfl ?_
            refine g_goto (tgt := 4) C d_M_out_59 (by decide) ?_
            refine GG.lvs (lv' := [(3, .int (iI ((i + 1 : Nat) : Int))), (2, .int (iI (ou (i + 1) (S 2) (S 3) (S 6) (fb g)))), (0, .ref (a 0)), (1, .int (iI (g : Int)))]) ?_ (ih (i + 1) (by omega) (by omega))
            have q1 : i2 = ((i + 1 : Nat) : Int) := by omega
            have q2 : r2 = ou (i + 1) (S 2) (S 3) (S 6) (fb g) := by
              rw [e_r2]
              show _ = ou i (S 2) (S 3) (S 6) (fb g) + (if S 6 i = 0 ∧ fb g (S 2 i) = true ∧ fb g (S 3 i) = false then 1 else 0)
              first
                | (have hh : S 6 i = 0 ∧ fb g (S 2 i) = true ∧ fb g (S 3 i) = false := And.intro h19 (And.intro (fb_1.mp h33) (fb_0.mp h46)); rw [if_pos hh])
                | (have hh : ¬ (S 6 i = 0 ∧ fb g (S 2 i) = true ∧ fb g (S 3 i) = false) := fun q => h19 q.1; rw [if_neg hh])
                | (have hh : ¬ (S 6 i = 0 ∧ fb g (S 2 i) = true ∧ fb g (S 3 i) = false) := fun q => h33 (fb_1.mpr q.2.1); rw [if_neg hh])
                | (have hh : ¬ (S 6 i = 0 ∧ fb g (S 2 i) = true ∧ fb g (S 3 i) = false) := fun q => h46 (fb_0.mpr q.2.2); rw [if_neg hh])
            rw [q1, q2]
            simp [lk]

set_option maxRecDepth 100000 in
set_option maxHeartbeats 4000000 in
theorem m_M_out {l : Launch} {D : va_G} {a : Nat → Nat} {ki kz kl kq : ClassId} {S : Nat → Int → Int} {g : Nat} (hG : GJ S) (hs31 : g < 2147483648) : MY l D a ki kz kl kq y_M_out b_M_out 4 (some .int) rm_M_out [.ref (a 0), .int (iI (g : Int))] S (pI fun r S' => S' = S ∧ r = ou (S 1 0).toNat (S 2) (S 3) (S 6) (fb g)) := by
  refine MM.go b_M_out 4 (some .int) "NextPathsModel" [(0, .ref (a 0)), (1, .int (iI (g : Int)))] (by decide) rfl rfl (Nat.le_of_ble_eq_true rfl) ?_
  intro p e s m args below meth c C hr hk
  refine g_iconst (z := 0) C d_M_out_0 rfl rfl ?_
  refine g_nm (fun r0 e_r0 => ?_)
  refine g_istore_n (lv' := [(2, .int (iI r0)), (0, .ref (a 0)), (1, .int (iI (g : Int)))]) C d_M_out_1 (by decide) rfl rfl ?_
  refine g_iconst (z := 0) C d_M_out_2 rfl rfl ?_
  refine g_nm (fun i0 e_i0 => ?_)
  refine g_istore_n (lv' := [(3, .int (iI i0)), (2, .int (iI r0)), (0, .ref (a 0)), (1, .int (iI (g : Int)))]) C d_M_out_3 (by decide) rfl rfl ?_
  subst e_r0
  subst e_i0
  exact lo_M_out hG hs31 C hr hk _ 0 (by omega) (Nat.le_add_left _ _)

set_option maxRecDepth 100000 in
set_option maxHeartbeats 4000000 in
theorem lo_M_many {l : Launch} {D : va_G} {a : Nat → Nat} {ki kz kl kq : ClassId} {p : Program} {e : Env} {s : State} {m : MethodId} {args : Array Value} {below : List Frame} {meth : Method} {c : Code} {S : Nat → Int → Int} {g : Nat} (hs31 : g < 2147483648) (C : CX p s m args c b_M_many 3 "NextPathsModel" TT D cls (tyz ki kz kl kq)) (hr : meth.sig.returnType = (some .int)) (hk : meth.locks = false) : ∀ (k i : Nat), i ≤ 8 → 8 ≤ i + k → GG p l e rm_M_many s m args below meth c D cls (adr (wY a ki kz kl kq S)) 3 0 0 (MQ below (QcW D cls (wY a ki kz kl kq) S (pI fun r S' => S' = S ∧ r = mn 8 (fb g))) args s 0 0 (adr (wY a ki kz kl kq S))) (wY a ki kz kl kq) S [(2, .int (iI (i : Int))), (1, .int (iI (mn i (fb g)))), (0, .int (iI (g : Int)))] 4 [] := by
  intro k
  induction k with
  | zero =>
    intro i hi hk0
    refine g_iload_n C d_M_many_4 rfl rfl ?_
    refine g_bipush (z := 8) C d_M_many_5 rfl (by decide) ?_
    refine g_icmp_ge (tgt := 24) C d_M_many_7 (by decide) rfl (by omega) (by omega) (fun h7 => ?_) (fun h7 => ?_)
    · refine g_iload_n C d_M_many_24 rfl rfl ?_
      refine g_iret C hr hk d_M_many_25 ⟨_, rfl, ?_⟩
      have hi2 : i = 8 := by omega
      subst hi2
      exact ⟨rfl, rfl⟩
    · exact absurd h7 (by omega)
  | succ k ih =>
    intro i hi hk0
    refine g_iload_n C d_M_many_4 rfl rfl ?_
    refine g_bipush (z := 8) C d_M_many_5 rfl (by decide) ?_
    refine g_icmp_ge (tgt := 24) C d_M_many_7 (by decide) rfl (by omega) (by omega) (fun h7 => ?_) (fun h7 => ?_)
    · refine g_iload_n C d_M_many_24 rfl rfl ?_
      refine g_iret C hr hk d_M_many_25 ⟨_, rfl, ?_⟩
      have hi2 : i = 8 := by omega
      subst hi2
      exact ⟨rfl, rfl⟩
    · refine g_iload_n C d_M_many_10 rfl rfl ?_
      refine g_iload_n C d_M_many_11 rfl rfl ?_
      refine g_iload_n C d_M_many_12 rfl rfl ?_
      refine g_ishr (z := ((g / 2 ^ ((i : Int)).toNat : Nat) : Int)) C d_M_many_13 (ishr_ok hs31 (by omega) (by omega)) rfl ?_
      refine g_iconst (z := 1) C d_M_many_14 rfl rfl ?_
      refine g_iand (z := ((g / 2 ^ ((i : Int)).toNat % 2 : Nat) : Int)) C d_M_many_15 iand1_ok rfl ?_
      refine g_iadd C d_M_many_16 rfl rfl ?_
      refine g_nm (fun r2 e_r2 => ?_)
      refine g_istore_n (lv' := [(1, .int (iI r2)), (2, .int (iI (i : Int))), (0, .int (iI (g : Int)))]) C d_M_many_17 (by decide) rfl rfl ?_
      obtain ⟨i2, e_i2⟩ : ∃ z : Int, z = (i : Int) + 1 := ⟨_, rfl⟩
      refine g_iinc (q := 1) (z := i2) (lv' := [(2, .int (iI i2)), (1, .int (iI r2)), (0, .int (iI (g : Int)))]) C d_M_many_18 rfl e_i2.symm (by decide) rfl rfl ?_
      refine g_goto (tgt := 4) C d_M_many_21 (by decide) ?_
      refine GG.lvs (lv' := [(2, .int (iI ((i + 1 : Nat) : Int))), (1, .int (iI (mn (i + 1) (fb g)))), (0, .int (iI (g : Int)))]) ?_ (ih (i + 1) (by omega) (by omega))
      have q1 : i2 = ((i + 1 : Nat) : Int) := by omega
      have q2 : r2 = mn (i + 1) (fb g) := by
        rw [e_r2]
        show _ = mn i (fb g) + (if fb g i = true then 1 else 0)
        by_cases c9 : fb g i = true
        · rw [if_pos c9, fb_1.mpr c9]
        · rw [if_neg c9, fb_0.mpr (by simpa using c9)]
      rw [q1, q2]
      simp [lk]

set_option maxRecDepth 100000 in
set_option maxHeartbeats 4000000 in
theorem m_M_many {l : Launch} {D : va_G} {a : Nat → Nat} {ki kz kl kq : ClassId} {S : Nat → Int → Int} {g : Nat} (hs31 : g < 2147483648) : MY l D a ki kz kl kq y_M_many b_M_many 3 (some .int) rm_M_many [.int (iI (g : Int))] S (pI fun r S' => S' = S ∧ r = mn 8 (fb g)) := by
  refine MM.go b_M_many 3 (some .int) "NextPathsModel" [(0, .int (iI (g : Int)))] (by decide) rfl rfl (Nat.le_of_ble_eq_true rfl) ?_
  intro p e s m args below meth c C hr hk
  refine g_iconst (z := 0) C d_M_many_0 rfl rfl ?_
  refine g_nm (fun r0 e_r0 => ?_)
  refine g_istore_n (lv' := [(1, .int (iI r0)), (0, .int (iI (g : Int)))]) C d_M_many_1 (by decide) rfl rfl ?_
  refine g_iconst (z := 0) C d_M_many_2 rfl rfl ?_
  refine g_nm (fun i0 e_i0 => ?_)
  refine g_istore_n (lv' := [(2, .int (iI i0)), (1, .int (iI r0)), (0, .int (iI (g : Int)))]) C d_M_many_3 (by decide) rfl rfl ?_
  subst e_r0
  subst e_i0
  exact lo_M_many hs31 C hr hk _ 0 (by omega) (Nat.le_add_left _ _)

/-- s is come to from u, and is closed up to arc k -/
def RCH (S : Nat → Int → Int) (u v : Int) (gone s : Nat) : Prop := fb s u = true ∧ s < 256 ∧ ∀ g : Int → Bool, g u = true → (∀ k : Int, 0 ≤ k → k < S 1 0 → S 6 k = 0 → g (S 2 k) = true → fb gone (S 3 k) = false → ¬ (S 2 k = u ∧ S 3 k = v) → g (S 3 k) = true) → ∀ x : Int, 0 ≤ x → fb s x = true → g x = true
def CLS (S : Nat → Int → Int) (u v : Int) (gone s n : Nat) : Prop := ∀ k : Int, 0 ≤ k → k < n → S 6 k = 0 → fb s (S 2 k) = true → fb gone (S 3 k) = false → ¬ (S 2 k = u ∧ S 3 k = v) → fb s (S 3 k) = true
theorem fb_or {s : Nat} {x y : Int} : fb (s ||| 2 ^ y.toNat) x = true ↔ fb s x = true ∨ y.toNat = x.toNat := by
  unfold fb
  rw [Nat.testBit_or, Nat.testBit_two_pow]
  simp
theorem or_le {s t : Nat} (h : t ||| s = t) : s ≤ t := by
  have := Nat.right_le_or (n := t) (m := s)
  omega
theorem RCH_step {S : Nat → Int → Int} {u v : Int} {gone s : Nat} {k : Int} (hG : GJ S) (h : RCH S u v gone s) (k0 : 0 ≤ k) (k1 : k < S 1 0) (h1 : S 6 k = 0) (h2 : fb s (S 2 k) = true) (h3 : fb gone (S 3 k) = false) (h4 : ¬ (S 2 k = u ∧ S 3 k = v)) : RCH S u v gone (s ||| 2 ^ (S 3 k).toNat) := by
  obtain ⟨a1, a2, a3⟩ := h
  have hk := hG.2.2.2.2.1 k
  refine ⟨fb_or.mpr (Or.inl a1), ?_, fun g g1 g2 x x0 hx => ?_⟩
  · exact Nat.or_lt_two_pow (n := 8) a2 (Nat.pow_lt_pow_right (by omega) (by omega))
  · rcases fb_or.mp hx with hx | hx
    · exact a3 g g1 g2 x x0 hx
    · have e : S 3 k = x := by omega
      rw [← e]
      exact g2 k k0 k1 h1 (a3 g g1 g2 _ (by omega) h2) h3 h4
/-- one arc more -/
theorem CLS_in {S : Nat → Int → Int} {u v : Int} {gone s t i : Nat} (h : t ||| s = t) (hc : t = s → CLS S u v gone s i) (hi : fb (t ||| 2 ^ (S 3 i).toNat) (S 3 i) = true) : (t ||| 2 ^ (S 3 i).toNat) ||| s = t ||| 2 ^ (S 3 i).toNat ∧ (t ||| 2 ^ (S 3 i).toNat = s → CLS S u v gone s (i + 1)) := by
  refine ⟨?_, fun e => ?_⟩
  · rw [Nat.or_assoc, Nat.or_comm (2 ^ _), ← Nat.or_assoc, h]
  · have e1 : t = s := by
      have h1 := or_le h
      have h2 := Nat.left_le_or (n := t) (m := 2 ^ (S 3 i).toNat)
      omega
    intro k k0 k1 c1 c2 c3 c4
    by_cases ek : k = i
    · subst ek; rw [e] at hi; exact hi
    · exact hc e1 k k0 (by omega) c1 c2 c3 c4
theorem CLS_out {S : Nat → Int → Int} {u v : Int} {gone s t i : Nat} (hc : t = s → CLS S u v gone s i) (hn : ¬ (S 6 i = 0 ∧ fb t (S 2 i) = true ∧ fb gone (S 3 i) = false ∧ ¬ (S 2 i = u ∧ S 3 i = v))) : t = s → CLS S u v gone s (i + 1) := fun e k k0 k1 c1 c2 c3 c4 => by
  by_cases ek : k = i
  · subst ek; rw [← e] at c2; exact absurd ⟨c1, c2, c3, c4⟩ hn
  · exact hc e k k0 (by omega) c1 c2 c3 c4

theorem ior_z {a : Nat} : iI (a : Int) ||| iI 0 = iI ((a : Nat) : Int) := by
  have := ior_ok (a := a) (b := 0)
  simpa using this

set_option maxRecDepth 100000 in
set_option maxHeartbeats 4000000 in
theorem join_in {l : Launch} {D : va_G} {a : Nat → Nat} {ki kz kl kq : ClassId} {p : Program} {e : Env} {s : State} {m : MethodId} {args : Array Value} {below : List Frame} {meth : Method} {c : Code} {S : Nat → Int → Int} {u v : Int} {w q : Nat} {Q : State → Prop} (hG : GJ S) (hu : 0 ≤ u ∧ u < 8) (hv : 0 ≤ v ∧ v < 8) (hw : w < 256) (C : CX p s m args c b_M_isJoined 8 "NextPathsModel" TT D cls (tyz ki kz kl kq)) (hr : meth.sig.returnType = some .boolean) (hk : meth.locks = false) (hc : ∀ t : Nat, RCH S u v w t → t ||| q = t → (t = q → CLS S u v w q (S 1 0).toNat) → GG p l e rm_M_isJoined s m args below meth c D cls (adr (wY a ki kz kl kq S)) 8 0 0 Q (wY a ki kz kl kq) S [(4, .int (iI (t : Int))), (5, .int (iI (q : Int))), (0, .ref (a 0)), (1, .int (iI u)), (2, .int (iI v)), (3, .int (iI (w : Int)))] 8 []) : ∀ (j i t : Nat), i ≤ (S 1 0).toNat → (S 1 0).toNat ≤ i + j → RCH S u v w t → t ||| q = t → (t = q → CLS S u v w q i) → GG p l e rm_M_isJoined s m args below meth c D cls (adr (wY a ki kz kl kq S)) 8 0 0 Q (wY a ki kz kl kq) S [(6, .int (iI (i : Int))), (4, .int (iI (t : Int))), (5, .int (iI (q : Int))), (0, .ref (a 0)), (1, .int (iI u)), (2, .int (iI v)), (3, .int (iI (w : Int)))] 22 [] := by
  intro j
  induction j with
  | zero =>
    intro i t hi hk0 hR hsub hcl
    have hn20 := hG.2.1
    have hgk := hG.2.2.2.2.1 i
    have hR2 := hR.2.1
    refine g_iload C d_M_isJoined_22 rfl rfl ?_
    refine g_aload_n C d_M_isJoined_24 rfl rfl ?_
    refine g_get C 0 1 i_M wY_0 rfl (by decide) k_M_73 rfl rfl d_M_isJoined_25 rfl ?_
    refine g_icmp_ge (tgt := 129) C d_M_isJoined_28 (by decide) rfl (by omega) (by omega) (fun h28 => ?_) (fun h28 => ?_)
    · refine g_goto (tgt := 8) C d_M_isJoined_129 (by decide) ?_
      have hin : i = (S 1 0).toNat := by omega
      subst hin
      refine GG.lvs (lv' := [(4, .int (iI (t : Int))), (5, .int (iI (q : Int))), (0, .ref (a 0)), (1, .int (iI u)), (2, .int (iI v)), (3, .int (iI (w : Int)))]) (by simp [lk]) ?_
      exact hc t hR hsub hcl
    · exact absurd h28 (by omega)
  | succ j ih =>
    intro i t hi hk0 hR hsub hcl
    have hn20 := hG.2.1
    have hgk := hG.2.2.2.2.1 i
    have hR2 := hR.2.1
    refine g_iload C d_M_isJoined_22 rfl rfl ?_
    refine g_aload_n C d_M_isJoined_24 rfl rfl ?_
    refine g_get C 0 1 i_M wY_0 rfl (by decide) k_M_73 rfl rfl d_M_isJoined_25 rfl ?_
    refine g_icmp_ge (tgt := 129) C d_M_isJoined_28 (by decide) rfl (by omega) (by omega) (fun h28 => ?_) (fun h28 => ?_)
    · refine g_goto (tgt := 8) C d_M_isJoined_129 (by decide) ?_
      have hin : i = (S 1 0).toNat := by omega
      subst hin
      refine GG.lvs (lv' := [(4, .int (iI (t : Int))), (5, .int (iI (q : Int))), (0, .ref (a 0)), (1, .int (iI u)), (2, .int (iI v)), (3, .int (iI (w : Int)))]) (by simp [lk]) ?_
      exact hc t hR hsub hcl
    · refine g_aload_n C d_M_isJoined_31 rfl rfl ?_
      refine g_get C 0 6 i_M wY_0 rfl (by decide) k_M_22 rfl rfl d_M_isJoined_32 rfl ?_
      refine g_iload C d_M_isJoined_35 rfl rfl ?_
      refine g_zald C 5 1 wY_5 rfl (by omega) (by omega) (by decide) d_M_isJoined_37 rfl ?_
      refine g_if_ne (tgt := 97) C d_M_isJoined_38 (by decide) rfl (by omega) (fun h38 => ?_) (fun h38 => ?_)
      · refine g_iconst (z := 0) C d_M_isJoined_97 rfl rfl ?_
        refine g_nm (fun c7 e_c7 => ?_)
        refine g_istore (lv' := [(7, .int (iI c7)), (6, .int (iI (i : Int))), (4, .int (iI (t : Int))), (5, .int (iI (q : Int))), (0, .ref (a 0)), (1, .int (iI u)), (2, .int (iI v)), (3, .int (iI (w : Int)))]) C d_M_isJoined_98 (by decide) rfl rfl ?_
        refine g_iload C d_M_isJoined_100 rfl rfl ?_
        refine g_iload C d_M_isJoined_102 rfl rfl ?_
        refine g_if_eq (tgt := 119) C d_M_isJoined_104 (by decide) rfl (by omega) (fun h104 => ?_) (fun h104 => ?_)
        · refine g_iconst (z := 0) C d_M_isJoined_119 rfl rfl ?_
          refine g_ior (z := _) C d_M_isJoined_120 (by first | exact ior_z | exact ior_ok) rfl ?_
          refine g_nm (fun s4 e_s4 => ?_)
          refine g_istore (lv' := [(4, .int (iI s4)), (7, .int (iI c7)), (6, .int (iI (i : Int))), (5, .int (iI (q : Int))), (0, .ref (a 0)), (1, .int (iI u)), (2, .int (iI v)), (3, .int (iI (w : Int)))]) C d_M_isJoined_121 (by decide) rfl rfl ?_
          obtain ⟨i2, e_i2⟩ : ∃ z : Int, z = (i : Int) + 1 := ⟨_, rfl⟩
          refine g_iinc (q := 2) (z := i2) (lv' := [(6, .int (iI i2)), (4, .int (iI s4)), (7, .int (iI c7)), (5, .int (iI (q : Int))), (0, .ref (a 0)), (1, .int (iI u)), (2, .int (iI v)), (3, .int (iI (w : Int)))]) C d_M_isJoined_123 rfl e_i2.symm (by decide) rfl rfl ?_
          refine g_goto (tgt := 22) C d_M_isJoined_126 (by decide) ?_
          first
            | (exfalso; omega)
            | (have hcd : S 6 i = 0 ∧ fb t (S 2 i) = true ∧ fb w (S 3 i) = false ∧ ¬ (S 2 i = u ∧ S 3 i = v) := ⟨h38, fb_1.mp h54, fb_0.mp h68, by omega⟩
               have hin := CLS_in (i := i) hsub hcl (fb_or.mpr (Or.inr rfl))
               refine GG.lvs (lv' := [(6, .int (iI ((i + 1 : Nat) : Int))), (4, .int (iI ((t ||| 2 ^ (S 3 i).toNat : Nat) : Int))), (5, .int (iI (q : Int))), (0, .ref (a 0)), (1, .int (iI u)), (2, .int (iI v)), (3, .int (iI (w : Int)))]) (by rw [show i2 = ((i + 1 : Nat) : Int) by omega, e_s4]; simp [lk]) ?_
               exact ih (i + 1) _ (by omega) (by omega) (RCH_step hG hR (by omega) (by omega) hcd.1 hcd.2.1 hcd.2.2.1 hcd.2.2.2) hin.1 hin.2)
            | (have hnc : ¬ (S 6 i = 0 ∧ fb t (S 2 i) = true ∧ fb w (S 3 i) = false ∧ ¬ (S 2 i = u ∧ S 3 i = v)) := by
                 first
                   | exact fun q => h38 q.1
                   | exact fun q => h54 (fb_1.mpr q.2.1)
                   | exact fun q => h68 (fb_0.mpr q.2.2.1)
                   | exact fun q => q.2.2.2 ⟨by omega, by omega⟩
               refine GG.lvs (lv' := [(6, .int (iI ((i + 1 : Nat) : Int))), (4, .int (iI (t : Int))), (5, .int (iI (q : Int))), (0, .ref (a 0)), (1, .int (iI u)), (2, .int (iI v)), (3, .int (iI (w : Int)))]) (by rw [show i2 = ((i + 1 : Nat) : Int) by omega, e_s4]; simp [lk]) ?_
               exact ih (i + 1) t (by omega) (by omega) hR hsub (CLS_out hcl hnc))
        · refine g_iconst (z := 1) C d_M_isJoined_107 rfl rfl ?_
          refine g_aload_n C d_M_isJoined_108 rfl rfl ?_
          refine g_get C 0 3 i_M wY_0 rfl (by decide) k_M_13 rfl rfl d_M_isJoined_109 rfl ?_
          refine g_iload C d_M_isJoined_112 rfl rfl ?_
          refine g_iald C 2 0 wY_2 rfl (by omega) (by omega) (by decide) d_M_isJoined_114 rfl ?_
          refine g_ishl (z := ((2 ^ (S 3 i).toNat : Nat) : Int)) C d_M_isJoined_115 (ishl_ok (by omega) (by omega)) rfl ?_
          refine g_goto (tgt := 120) C d_M_isJoined_116 (by decide) ?_
          refine g_ior (z := _) C d_M_isJoined_120 (by first | exact ior_z | exact ior_ok) rfl ?_
          refine g_nm (fun s4 e_s4 => ?_)
          refine g_istore (lv' := [(4, .int (iI s4)), (7, .int (iI c7)), (6, .int (iI (i : Int))), (5, .int (iI (q : Int))), (0, .ref (a 0)), (1, .int (iI u)), (2, .int (iI v)), (3, .int (iI (w : Int)))]) C d_M_isJoined_121 (by decide) rfl rfl ?_
          obtain ⟨i2, e_i2⟩ : ∃ z : Int, z = (i : Int) + 1 := ⟨_, rfl⟩
          refine g_iinc (q := 2) (z := i2) (lv' := [(6, .int (iI i2)), (4, .int (iI s4)), (7, .int (iI c7)), (5, .int (iI (q : Int))), (0, .ref (a 0)), (1, .int (iI u)), (2, .int (iI v)), (3, .int (iI (w : Int)))]) C d_M_isJoined_123 rfl e_i2.symm (by decide) rfl rfl ?_
          refine g_goto (tgt := 22) C d_M_isJoined_126 (by decide) ?_
          first
            | (exfalso; omega)
            | (have hcd : S 6 i = 0 ∧ fb t (S 2 i) = true ∧ fb w (S 3 i) = false ∧ ¬ (S 2 i = u ∧ S 3 i = v) := ⟨h38, fb_1.mp h54, fb_0.mp h68, by omega⟩
               have hin := CLS_in (i := i) hsub hcl (fb_or.mpr (Or.inr rfl))
               refine GG.lvs (lv' := [(6, .int (iI ((i + 1 : Nat) : Int))), (4, .int (iI ((t ||| 2 ^ (S 3 i).toNat : Nat) : Int))), (5, .int (iI (q : Int))), (0, .ref (a 0)), (1, .int (iI u)), (2, .int (iI v)), (3, .int (iI (w : Int)))]) (by rw [show i2 = ((i + 1 : Nat) : Int) by omega, e_s4]; simp [lk]) ?_
               exact ih (i + 1) _ (by omega) (by omega) (RCH_step hG hR (by omega) (by omega) hcd.1 hcd.2.1 hcd.2.2.1 hcd.2.2.2) hin.1 hin.2)
            | (have hnc : ¬ (S 6 i = 0 ∧ fb t (S 2 i) = true ∧ fb w (S 3 i) = false ∧ ¬ (S 2 i = u ∧ S 3 i = v)) := by
                 first
                   | exact fun q => h38 q.1
                   | exact fun q => h54 (fb_1.mpr q.2.1)
                   | exact fun q => h68 (fb_0.mpr q.2.2.1)
                   | exact fun q => q.2.2.2 ⟨by omega, by omega⟩
               refine GG.lvs (lv' := [(6, .int (iI ((i + 1 : Nat) : Int))), (4, .int (iI (t : Int))), (5, .int (iI (q : Int))), (0, .ref (a 0)), (1, .int (iI u)), (2, .int (iI v)), (3, .int (iI (w : Int)))]) (by rw [show i2 = ((i + 1 : Nat) : Int) by omega, e_s4]; simp [lk]) ?_
               exact ih (i + 1) t (by omega) (by omega) hR hsub (CLS_out hcl hnc))
      · refine g_iload C d_M_isJoined_41 rfl rfl ?_
        refine g_aload_n C d_M_isJoined_43 rfl rfl ?_
        refine g_get C 0 2 i_M wY_0 rfl (by decide) k_M_7 rfl rfl d_M_isJoined_44 rfl ?_
        refine g_iload C d_M_isJoined_47 rfl rfl ?_
        refine g_iald C 1 0 wY_1 rfl (by omega) (by omega) (by decide) d_M_isJoined_49 rfl ?_
        refine g_ishr (z := ((t / 2 ^ (S 2 i).toNat : Nat) : Int)) C d_M_isJoined_50 (ishr_ok (by omega) (by omega) (by omega)) rfl ?_
        refine g_iconst (z := 1) C d_M_isJoined_51 rfl rfl ?_
        refine g_iand (z := ((t / 2 ^ (S 2 i).toNat % 2 : Nat) : Int)) C d_M_isJoined_52 iand1_ok rfl ?_
        refine g_iconst (z := 1) C d_M_isJoined_53 rfl rfl ?_
        refine g_icmp_ne (tgt := 97) C d_M_isJoined_54 (by decide) rfl fb_r (by omega) (fun h54 => ?_) (fun h54 => ?_)
        · refine g_iconst (z := 0) C d_M_isJoined_97 rfl rfl ?_
          refine g_nm (fun c7 e_c7 => ?_)
          refine g_istore (lv' := [(7, .int (iI c7)), (6, .int (iI (i : Int))), (4, .int (iI (t : Int))), (5, .int (iI (q : Int))), (0, .ref (a 0)), (1, .int (iI u)), (2, .int (iI v)), (3, .int (iI (w : Int)))]) C d_M_isJoined_98 (by decide) rfl rfl ?_
          refine g_iload C d_M_isJoined_100 rfl rfl ?_
          refine g_iload C d_M_isJoined_102 rfl rfl ?_
          refine g_if_eq (tgt := 119) C d_M_isJoined_104 (by decide) rfl (by omega) (fun h104 => ?_) (fun h104 => ?_)
          · refine g_iconst (z := 0) C d_M_isJoined_119 rfl rfl ?_
            refine g_ior (z := _) C d_M_isJoined_120 (by first | exact ior_z | exact ior_ok) rfl ?_
            refine g_nm (fun s4 e_s4 => ?_)
            refine g_istore (lv' := [(4, .int (iI s4)), (7, .int (iI c7)), (6, .int (iI (i : Int))), (5, .int (iI (q : Int))), (0, .ref (a 0)), (1, .int (iI u)), (2, .int (iI v)), (3, .int (iI (w : Int)))]) C d_M_isJoined_121 (by decide) rfl rfl ?_
            obtain ⟨i2, e_i2⟩ : ∃ z : Int, z = (i : Int) + 1 := ⟨_, rfl⟩
            refine g_iinc (q := 2) (z := i2) (lv' := [(6, .int (iI i2)), (4, .int (iI s4)), (7, .int (iI c7)), (5, .int (iI (q : Int))), (0, .ref (a 0)), (1, .int (iI u)), (2, .int (iI v)), (3, .int (iI (w : Int)))]) C d_M_isJoined_123 rfl e_i2.symm (by decide) rfl rfl ?_
            refine g_goto (tgt := 22) C d_M_isJoined_126 (by decide) ?_
            first
              | (exfalso; omega)
              | (have hcd : S 6 i = 0 ∧ fb t (S 2 i) = true ∧ fb w (S 3 i) = false ∧ ¬ (S 2 i = u ∧ S 3 i = v) := ⟨h38, fb_1.mp h54, fb_0.mp h68, by omega⟩
                 have hin := CLS_in (i := i) hsub hcl (fb_or.mpr (Or.inr rfl))
                 refine GG.lvs (lv' := [(6, .int (iI ((i + 1 : Nat) : Int))), (4, .int (iI ((t ||| 2 ^ (S 3 i).toNat : Nat) : Int))), (5, .int (iI (q : Int))), (0, .ref (a 0)), (1, .int (iI u)), (2, .int (iI v)), (3, .int (iI (w : Int)))]) (by rw [show i2 = ((i + 1 : Nat) : Int) by omega, e_s4]; simp [lk]) ?_
                 exact ih (i + 1) _ (by omega) (by omega) (RCH_step hG hR (by omega) (by omega) hcd.1 hcd.2.1 hcd.2.2.1 hcd.2.2.2) hin.1 hin.2)
              | (have hnc : ¬ (S 6 i = 0 ∧ fb t (S 2 i) = true ∧ fb w (S 3 i) = false ∧ ¬ (S 2 i = u ∧ S 3 i = v)) := by
                   first
                     | exact fun q => h38 q.1
                     | exact fun q => h54 (fb_1.mpr q.2.1)
                     | exact fun q => h68 (fb_0.mpr q.2.2.1)
                     | exact fun q => q.2.2.2 ⟨by omega, by omega⟩
                 refine GG.lvs (lv' := [(6, .int (iI ((i + 1 : Nat) : Int))), (4, .int (iI (t : Int))), (5, .int (iI (q : Int))), (0, .ref (a 0)), (1, .int (iI u)), (2, .int (iI v)), (3, .int (iI (w : Int)))]) (by rw [show i2 = ((i + 1 : Nat) : Int) by omega, e_s4]; simp [lk]) ?_
                 exact ih (i + 1) t (by omega) (by omega) hR hsub (CLS_out hcl hnc))
          · refine g_iconst (z := 1) C d_M_isJoined_107 rfl rfl ?_
            refine g_aload_n C d_M_isJoined_108 rfl rfl ?_
            refine g_get C 0 3 i_M wY_0 rfl (by decide) k_M_13 rfl rfl d_M_isJoined_109 rfl ?_
            refine g_iload C d_M_isJoined_112 rfl rfl ?_
            refine g_iald C 2 0 wY_2 rfl (by omega) (by omega) (by decide) d_M_isJoined_114 rfl ?_
            refine g_ishl (z := ((2 ^ (S 3 i).toNat : Nat) : Int)) C d_M_isJoined_115 (ishl_ok (by omega) (by omega)) rfl ?_
            refine g_goto (tgt := 120) C d_M_isJoined_116 (by decide) ?_
            refine g_ior (z := _) C d_M_isJoined_120 (by first | exact ior_z | exact ior_ok) rfl ?_
            refine g_nm (fun s4 e_s4 => ?_)
            refine g_istore (lv' := [(4, .int (iI s4)), (7, .int (iI c7)), (6, .int (iI (i : Int))), (5, .int (iI (q : Int))), (0, .ref (a 0)), (1, .int (iI u)), (2, .int (iI v)), (3, .int (iI (w : Int)))]) C d_M_isJoined_121 (by decide) rfl rfl ?_
            obtain ⟨i2, e_i2⟩ : ∃ z : Int, z = (i : Int) + 1 := ⟨_, rfl⟩
            refine g_iinc (q := 2) (z := i2) (lv' := [(6, .int (iI i2)), (4, .int (iI s4)), (7, .int (iI c7)), (5, .int (iI (q : Int))), (0, .ref (a 0)), (1, .int (iI u)), (2, .int (iI v)), (3, .int (iI (w : Int)))]) C d_M_isJoined_123 rfl e_i2.symm (by decide) rfl rfl ?_
            refine g_goto (tgt := 22) C d_M_isJoined_126 (by decide) ?_
            first
              | (exfalso; omega)
              | (have hcd : S 6 i = 0 ∧ fb t (S 2 i) = true ∧ fb w (S 3 i) = false ∧ ¬ (S 2 i = u ∧ S 3 i = v) := ⟨h38, fb_1.mp h54, fb_0.mp h68, by omega⟩
                 have hin := CLS_in (i := i) hsub hcl (fb_or.mpr (Or.inr rfl))
                 refine GG.lvs (lv' := [(6, .int (iI ((i + 1 : Nat) : Int))), (4, .int (iI ((t ||| 2 ^ (S 3 i).toNat : Nat) : Int))), (5, .int (iI (q : Int))), (0, .ref (a 0)), (1, .int (iI u)), (2, .int (iI v)), (3, .int (iI (w : Int)))]) (by rw [show i2 = ((i + 1 : Nat) : Int) by omega, e_s4]; simp [lk]) ?_
                 exact ih (i + 1) _ (by omega) (by omega) (RCH_step hG hR (by omega) (by omega) hcd.1 hcd.2.1 hcd.2.2.1 hcd.2.2.2) hin.1 hin.2)
              | (have hnc : ¬ (S 6 i = 0 ∧ fb t (S 2 i) = true ∧ fb w (S 3 i) = false ∧ ¬ (S 2 i = u ∧ S 3 i = v)) := by
                   first
                     | exact fun q => h38 q.1
                     | exact fun q => h54 (fb_1.mpr q.2.1)
                     | exact fun q => h68 (fb_0.mpr q.2.2.1)
                     | exact fun q => q.2.2.2 ⟨by omega, by omega⟩
                 refine GG.lvs (lv' := [(6, .int (iI ((i + 1 : Nat) : Int))), (4, .int (iI (t : Int))), (5, .int (iI (q : Int))), (0, .ref (a 0)), (1, .int (iI u)), (2, .int (iI v)), (3, .int (iI (w : Int)))]) (by rw [show i2 = ((i + 1 : Nat) : Int) by omega, e_s4]; simp [lk]) ?_
                 exact ih (i + 1) t (by omega) (by omega) hR hsub (CLS_out hcl hnc))
        · refine g_iload_n C d_M_isJoined_57 rfl rfl ?_
          refine g_aload_n C d_M_isJoined_58 rfl rfl ?_
          refine g_get C 0 3 i_M wY_0 rfl (by decide) k_M_13 rfl rfl d_M_isJoined_59 rfl ?_
          refine g_iload C d_M_isJoined_62 rfl rfl ?_
          refine g_iald C 2 0 wY_2 rfl (by omega) (by omega) (by decide) d_M_isJoined_64 rfl ?_
          refine g_ishr (z := ((w / 2 ^ (S 3 i).toNat : Nat) : Int)) C d_M_isJoined_65 (ishr_ok (by omega) (by omega) (by omega)) rfl ?_
          refine g_iconst (z := 1) C d_M_isJoined_66 rfl rfl ?_
          refine g_iand (z := ((w / 2 ^ (S 3 i).toNat % 2 : Nat) : Int)) C d_M_isJoined_67 iand1_ok rfl ?_
          refine g_if_ne (tgt := 97) C d_M_isJoined_68 (by decide) rfl fb_r (fun h68 => ?_) (fun h68 => ?_)
          · refine g_iconst (z := 0) C d_M_isJoined_97 rfl rfl ?_
            refine g_nm (fun c7 e_c7 => ?_)
            refine g_istore (lv' := [(7, .int (iI c7)), (6, .int (iI (i : Int))), (4, .int (iI (t : Int))), (5, .int (iI (q : Int))), (0, .ref (a 0)), (1, .int (iI u)), (2, .int (iI v)), (3, .int (iI (w : Int)))]) C d_M_isJoined_98 (by decide) rfl rfl ?_
            refine g_iload C d_M_isJoined_100 rfl rfl ?_
            refine g_iload C d_M_isJoined_102 rfl rfl ?_
            refine g_if_eq (tgt := 119) C d_M_isJoined_104 (by decide) rfl (by omega) (fun h104 => ?_) (fun h104 => ?_)
            · refine g_iconst (z := 0) C d_M_isJoined_119 rfl rfl ?_
              refine g_ior (z := _) C d_M_isJoined_120 (by first | exact ior_z | exact ior_ok) rfl ?_
              refine g_nm (fun s4 e_s4 => ?_)
              refine g_istore (lv' := [(4, .int (iI s4)), (7, .int (iI c7)), (6, .int (iI (i : Int))), (5, .int (iI (q : Int))), (0, .ref (a 0)), (1, .int (iI u)), (2, .int (iI v)), (3, .int (iI (w : Int)))]) C d_M_isJoined_121 (by decide) rfl rfl ?_
              obtain ⟨i2, e_i2⟩ : ∃ z : Int, z = (i : Int) + 1 := ⟨_, rfl⟩
              refine g_iinc (q := 2) (z := i2) (lv' := [(6, .int (iI i2)), (4, .int (iI s4)), (7, .int (iI c7)), (5, .int (iI (q : Int))), (0, .ref (a 0)), (1, .int (iI u)), (2, .int (iI v)), (3, .int (iI (w : Int)))]) C d_M_isJoined_123 rfl e_i2.symm (by decide) rfl rfl ?_
              refine g_goto (tgt := 22) C d_M_isJoined_126 (by decide) ?_
              first
                | (exfalso; omega)
                | (have hcd : S 6 i = 0 ∧ fb t (S 2 i) = true ∧ fb w (S 3 i) = false ∧ ¬ (S 2 i = u ∧ S 3 i = v) := ⟨h38, fb_1.mp h54, fb_0.mp h68, by omega⟩
                   have hin := CLS_in (i := i) hsub hcl (fb_or.mpr (Or.inr rfl))
                   refine GG.lvs (lv' := [(6, .int (iI ((i + 1 : Nat) : Int))), (4, .int (iI ((t ||| 2 ^ (S 3 i).toNat : Nat) : Int))), (5, .int (iI (q : Int))), (0, .ref (a 0)), (1, .int (iI u)), (2, .int (iI v)), (3, .int (iI (w : Int)))]) (by rw [show i2 = ((i + 1 : Nat) : Int) by omega, e_s4]; simp [lk]) ?_
                   exact ih (i + 1) _ (by omega) (by omega) (RCH_step hG hR (by omega) (by omega) hcd.1 hcd.2.1 hcd.2.2.1 hcd.2.2.2) hin.1 hin.2)
                | (have hnc : ¬ (S 6 i = 0 ∧ fb t (S 2 i) = true ∧ fb w (S 3 i) = false ∧ ¬ (S 2 i = u ∧ S 3 i = v)) := by
                     first
                       | exact fun q => h38 q.1
                       | exact fun q => h54 (fb_1.mpr q.2.1)
                       | exact fun q => h68 (fb_0.mpr q.2.2.1)
                       | exact fun q => q.2.2.2 ⟨by omega, by omega⟩
                   refine GG.lvs (lv' := [(6, .int (iI ((i + 1 : Nat) : Int))), (4, .int (iI (t : Int))), (5, .int (iI (q : Int))), (0, .ref (a 0)), (1, .int (iI u)), (2, .int (iI v)), (3, .int (iI (w : Int)))]) (by rw [show i2 = ((i + 1 : Nat) : Int) by omega, e_s4]; simp [lk]) ?_
                   exact ih (i + 1) t (by omega) (by omega) hR hsub (CLS_out hcl hnc))
            · refine g_iconst (z := 1) C d_M_isJoined_107 rfl rfl ?_
              refine g_aload_n C d_M_isJoined_108 rfl rfl ?_
              refine g_get C 0 3 i_M wY_0 rfl (by decide) k_M_13 rfl rfl d_M_isJoined_109 rfl ?_
              refine g_iload C d_M_isJoined_112 rfl rfl ?_
              refine g_iald C 2 0 wY_2 rfl (by omega) (by omega) (by decide) d_M_isJoined_114 rfl ?_
              refine g_ishl (z := ((2 ^ (S 3 i).toNat : Nat) : Int)) C d_M_isJoined_115 (ishl_ok (by omega) (by omega)) rfl ?_
              refine g_goto (tgt := 120) C d_M_isJoined_116 (by decide) ?_
              refine g_ior (z := _) C d_M_isJoined_120 (by first | exact ior_z | exact ior_ok) rfl ?_
              refine g_nm (fun s4 e_s4 => ?_)
              refine g_istore (lv' := [(4, .int (iI s4)), (7, .int (iI c7)), (6, .int (iI (i : Int))), (5, .int (iI (q : Int))), (0, .ref (a 0)), (1, .int (iI u)), (2, .int (iI v)), (3, .int (iI (w : Int)))]) C d_M_isJoined_121 (by decide) rfl rfl ?_
              obtain ⟨i2, e_i2⟩ : ∃ z : Int, z = (i : Int) + 1 := ⟨_, rfl⟩
              refine g_iinc (q := 2) (z := i2) (lv' := [(6, .int (iI i2)), (4, .int (iI s4)), (7, .int (iI c7)), (5, .int (iI (q : Int))), (0, .ref (a 0)), (1, .int (iI u)), (2, .int (iI v)), (3, .int (iI (w : Int)))]) C d_M_isJoined_123 rfl e_i2.symm (by decide) rfl rfl ?_
              refine g_goto (tgt := 22) C d_M_isJoined_126 (by decide) ?_
              first
                | (exfalso; omega)
                | (have hcd : S 6 i = 0 ∧ fb t (S 2 i) = true ∧ fb w (S 3 i) = false ∧ ¬ (S 2 i = u ∧ S 3 i = v) := ⟨h38, fb_1.mp h54, fb_0.mp h68, by omega⟩
                   have hin := CLS_in (i := i) hsub hcl (fb_or.mpr (Or.inr rfl))
                   refine GG.lvs (lv' := [(6, .int (iI ((i + 1 : Nat) : Int))), (4, .int (iI ((t ||| 2 ^ (S 3 i).toNat : Nat) : Int))), (5, .int (iI (q : Int))), (0, .ref (a 0)), (1, .int (iI u)), (2, .int (iI v)), (3, .int (iI (w : Int)))]) (by rw [show i2 = ((i + 1 : Nat) : Int) by omega, e_s4]; simp [lk]) ?_
                   exact ih (i + 1) _ (by omega) (by omega) (RCH_step hG hR (by omega) (by omega) hcd.1 hcd.2.1 hcd.2.2.1 hcd.2.2.2) hin.1 hin.2)
                | (have hnc : ¬ (S 6 i = 0 ∧ fb t (S 2 i) = true ∧ fb w (S 3 i) = false ∧ ¬ (S 2 i = u ∧ S 3 i = v)) := by
                     first
                       | exact fun q => h38 q.1
                       | exact fun q => h54 (fb_1.mpr q.2.1)
                       | exact fun q => h68 (fb_0.mpr q.2.2.1)
                       | exact fun q => q.2.2.2 ⟨by omega, by omega⟩
                   refine GG.lvs (lv' := [(6, .int (iI ((i + 1 : Nat) : Int))), (4, .int (iI (t : Int))), (5, .int (iI (q : Int))), (0, .ref (a 0)), (1, .int (iI u)), (2, .int (iI v)), (3, .int (iI (w : Int)))]) (by rw [show i2 = ((i + 1 : Nat) : Int) by omega, e_s4]; simp [lk]) ?_
                   exact ih (i + 1) t (by omega) (by omega) hR hsub (CLS_out hcl hnc))
          · refine g_aload_n C d_M_isJoined_71 rfl rfl ?_
            refine g_get C 0 2 i_M wY_0 rfl (by decide) k_M_7 rfl rfl d_M_isJoined_72 rfl ?_
            refine g_iload C d_M_isJoined_75 rfl rfl ?_
            refine g_iald C 1 0 wY_1 rfl (by omega) (by omega) (by decide) d_M_isJoined_77 rfl ?_
            refine g_iload_n C d_M_isJoined_78 rfl rfl ?_
            refine g_icmp_ne (tgt := 93) C d_M_isJoined_79 (by decide) rfl (by omega) (by omega) (fun h79 => ?_) (fun h79 => ?_)
            · refine g_iconst (z := 1) C d_M_isJoined_93 rfl rfl ?_
              refine g_goto (tgt := 98) C d_M_isJoined_94 (by decide) ?_
              refine g_nm (fun c7 e_c7 => ?_)
              refine g_istore (lv' := [(7, .int (iI c7)), (6, .int (iI (i : Int))), (4, .int (iI (t : Int))), (5, .int (iI (q : Int))), (0, .ref (a 0)), (1, .int (iI u)), (2, .int (iI v)), (3, .int (iI (w : Int)))]) C d_M_isJoined_98 (by decide) rfl rfl ?_
              refine g_iload C d_M_isJoined_100 rfl rfl ?_
              refine g_iload C d_M_isJoined_102 rfl rfl ?_
              refine g_if_eq (tgt := 119) C d_M_isJoined_104 (by decide) rfl (by omega) (fun h104 => ?_) (fun h104 => ?_)
              · refine g_iconst (z := 0) C d_M_isJoined_119 rfl rfl ?_
                refine g_ior (z := _) C d_M_isJoined_120 (by first | exact ior_z | exact ior_ok) rfl ?_
                refine g_nm (fun s4 e_s4 => ?_)
                refine g_istore (lv' := [(4, .int (iI s4)), (7, .int (iI c7)), (6, .int (iI (i : Int))), (5, .int (iI (q : Int))), (0, .ref (a 0)), (1, .int (iI u)), (2, .int (iI v)), (3, .int (iI (w : Int)))]) C d_M_isJoined_121 (by decide) rfl rfl ?_
                obtain ⟨i2, e_i2⟩ : ∃ z : Int, z = (i : Int) + 1 := ⟨_, rfl⟩
                refine g_iinc (q := 2) (z := i2) (lv' := [(6, .int (iI i2)), (4, .int (iI s4)), (7, .int (iI c7)), (5, .int (iI (q : Int))), (0, .ref (a 0)), (1, .int (iI u)), (2, .int (iI v)), (3, .int (iI (w : Int)))]) C d_M_isJoined_123 rfl e_i2.symm (by decide) rfl rfl ?_
                refine g_goto (tgt := 22) C d_M_isJoined_126 (by decide) ?_
                first
                  | (exfalso; omega)
                  | (have hcd : S 6 i = 0 ∧ fb t (S 2 i) = true ∧ fb w (S 3 i) = false ∧ ¬ (S 2 i = u ∧ S 3 i = v) := ⟨h38, fb_1.mp h54, fb_0.mp h68, by omega⟩
                     have hin := CLS_in (i := i) hsub hcl (fb_or.mpr (Or.inr rfl))
                     refine GG.lvs (lv' := [(6, .int (iI ((i + 1 : Nat) : Int))), (4, .int (iI ((t ||| 2 ^ (S 3 i).toNat : Nat) : Int))), (5, .int (iI (q : Int))), (0, .ref (a 0)), (1, .int (iI u)), (2, .int (iI v)), (3, .int (iI (w : Int)))]) (by rw [show i2 = ((i + 1 : Nat) : Int) by omega, e_s4]; simp [lk]) ?_
                     exact ih (i + 1) _ (by omega) (by omega) (RCH_step hG hR (by omega) (by omega) hcd.1 hcd.2.1 hcd.2.2.1 hcd.2.2.2) hin.1 hin.2)
                  | (have hnc : ¬ (S 6 i = 0 ∧ fb t (S 2 i) = true ∧ fb w (S 3 i) = false ∧ ¬ (S 2 i = u ∧ S 3 i = v)) := by
                       first
                         | exact fun q => h38 q.1
                         | exact fun q => h54 (fb_1.mpr q.2.1)
                         | exact fun q => h68 (fb_0.mpr q.2.2.1)
                         | exact fun q => q.2.2.2 ⟨by omega, by omega⟩
                     refine GG.lvs (lv' := [(6, .int (iI ((i + 1 : Nat) : Int))), (4, .int (iI (t : Int))), (5, .int (iI (q : Int))), (0, .ref (a 0)), (1, .int (iI u)), (2, .int (iI v)), (3, .int (iI (w : Int)))]) (by rw [show i2 = ((i + 1 : Nat) : Int) by omega, e_s4]; simp [lk]) ?_
                     exact ih (i + 1) t (by omega) (by omega) hR hsub (CLS_out hcl hnc))
              · refine g_iconst (z := 1) C d_M_isJoined_107 rfl rfl ?_
                refine g_aload_n C d_M_isJoined_108 rfl rfl ?_
                refine g_get C 0 3 i_M wY_0 rfl (by decide) k_M_13 rfl rfl d_M_isJoined_109 rfl ?_
                refine g_iload C d_M_isJoined_112 rfl rfl ?_
                refine g_iald C 2 0 wY_2 rfl (by omega) (by omega) (by decide) d_M_isJoined_114 rfl ?_
                refine g_ishl (z := ((2 ^ (S 3 i).toNat : Nat) : Int)) C d_M_isJoined_115 (ishl_ok (by omega) (by omega)) rfl ?_
                refine g_goto (tgt := 120) C d_M_isJoined_116 (by decide) ?_
                refine g_ior (z := _) C d_M_isJoined_120 (by first | exact ior_z | exact ior_ok) rfl ?_
                refine g_nm (fun s4 e_s4 => ?_)
                refine g_istore (lv' := [(4, .int (iI s4)), (7, .int (iI c7)), (6, .int (iI (i : Int))), (5, .int (iI (q : Int))), (0, .ref (a 0)), (1, .int (iI u)), (2, .int (iI v)), (3, .int (iI (w : Int)))]) C d_M_isJoined_121 (by decide) rfl rfl ?_
                obtain ⟨i2, e_i2⟩ : ∃ z : Int, z = (i : Int) + 1 := ⟨_, rfl⟩
                refine g_iinc (q := 2) (z := i2) (lv' := [(6, .int (iI i2)), (4, .int (iI s4)), (7, .int (iI c7)), (5, .int (iI (q : Int))), (0, .ref (a 0)), (1, .int (iI u)), (2, .int (iI v)), (3, .int (iI (w : Int)))]) C d_M_isJoined_123 rfl e_i2.symm (by decide) rfl rfl ?_
                refine g_goto (tgt := 22) C d_M_isJoined_126 (by decide) ?_
                first
                  | (exfalso; omega)
                  | (have hcd : S 6 i = 0 ∧ fb t (S 2 i) = true ∧ fb w (S 3 i) = false ∧ ¬ (S 2 i = u ∧ S 3 i = v) := ⟨h38, fb_1.mp h54, fb_0.mp h68, by omega⟩
                     have hin := CLS_in (i := i) hsub hcl (fb_or.mpr (Or.inr rfl))
                     refine GG.lvs (lv' := [(6, .int (iI ((i + 1 : Nat) : Int))), (4, .int (iI ((t ||| 2 ^ (S 3 i).toNat : Nat) : Int))), (5, .int (iI (q : Int))), (0, .ref (a 0)), (1, .int (iI u)), (2, .int (iI v)), (3, .int (iI (w : Int)))]) (by rw [show i2 = ((i + 1 : Nat) : Int) by omega, e_s4]; simp [lk]) ?_
                     exact ih (i + 1) _ (by omega) (by omega) (RCH_step hG hR (by omega) (by omega) hcd.1 hcd.2.1 hcd.2.2.1 hcd.2.2.2) hin.1 hin.2)
                  | (have hnc : ¬ (S 6 i = 0 ∧ fb t (S 2 i) = true ∧ fb w (S 3 i) = false ∧ ¬ (S 2 i = u ∧ S 3 i = v)) := by
                       first
                         | exact fun q => h38 q.1
                         | exact fun q => h54 (fb_1.mpr q.2.1)
                         | exact fun q => h68 (fb_0.mpr q.2.2.1)
                         | exact fun q => q.2.2.2 ⟨by omega, by omega⟩
                     refine GG.lvs (lv' := [(6, .int (iI ((i + 1 : Nat) : Int))), (4, .int (iI (t : Int))), (5, .int (iI (q : Int))), (0, .ref (a 0)), (1, .int (iI u)), (2, .int (iI v)), (3, .int (iI (w : Int)))]) (by rw [show i2 = ((i + 1 : Nat) : Int) by omega, e_s4]; simp [lk]) ?_
                     exact ih (i + 1) t (by omega) (by omega) hR hsub (CLS_out hcl hnc))
            · refine g_aload_n C d_M_isJoined_82 rfl rfl ?_
              refine g_get C 0 3 i_M wY_0 rfl (by decide) k_M_13 rfl rfl d_M_isJoined_83 rfl ?_
              refine g_iload C d_M_isJoined_86 rfl rfl ?_
              refine g_iald C 2 0 wY_2 rfl (by omega) (by omega) (by decide) d_M_isJoined_88 rfl ?_
              refine g_iload_n C d_M_isJoined_89 rfl rfl ?_
              refine g_icmp_eq (tgt := 97) C d_M_isJoined_90 (by decide) rfl (by omega) (by omega) (fun h90 => ?_) (fun h90 => ?_)
              · refine g_iconst (z := 0) C d_M_isJoined_97 rfl rfl ?_
                refine g_nm (fun c7 e_c7 => ?_)
                refine g_istore (lv' := [(7, .int (iI c7)), (6, .int (iI (i : Int))), (4, .int (iI (t : Int))), (5, .int (iI (q : Int))), (0, .ref (a 0)), (1, .int (iI u)), (2, .int (iI v)), (3, .int (iI (w : Int)))]) C d_M_isJoined_98 (by decide) rfl rfl ?_
                refine g_iload C d_M_isJoined_100 rfl rfl ?_
                refine g_iload C d_M_isJoined_102 rfl rfl ?_
                refine g_if_eq (tgt := 119) C d_M_isJoined_104 (by decide) rfl (by omega) (fun h104 => ?_) (fun h104 => ?_)
                · refine g_iconst (z := 0) C d_M_isJoined_119 rfl rfl ?_
                  refine g_ior (z := _) C d_M_isJoined_120 (by first | exact ior_z | exact ior_ok) rfl ?_
                  refine g_nm (fun s4 e_s4 => ?_)
                  refine g_istore (lv' := [(4, .int (iI s4)), (7, .int (iI c7)), (6, .int (iI (i : Int))), (5, .int (iI (q : Int))), (0, .ref (a 0)), (1, .int (iI u)), (2, .int (iI v)), (3, .int (iI (w : Int)))]) C d_M_isJoined_121 (by decide) rfl rfl ?_
                  obtain ⟨i2, e_i2⟩ : ∃ z : Int, z = (i : Int) + 1 := ⟨_, rfl⟩
                  refine g_iinc (q := 2) (z := i2) (lv' := [(6, .int (iI i2)), (4, .int (iI s4)), (7, .int (iI c7)), (5, .int (iI (q : Int))), (0, .ref (a 0)), (1, .int (iI u)), (2, .int (iI v)), (3, .int (iI (w : Int)))]) C d_M_isJoined_123 rfl e_i2.symm (by decide) rfl rfl ?_
                  refine g_goto (tgt := 22) C d_M_isJoined_126 (by decide) ?_
                  first
                    | (exfalso; omega)
                    | (have hcd : S 6 i = 0 ∧ fb t (S 2 i) = true ∧ fb w (S 3 i) = false ∧ ¬ (S 2 i = u ∧ S 3 i = v) := ⟨h38, fb_1.mp h54, fb_0.mp h68, by omega⟩
                       have hin := CLS_in (i := i) hsub hcl (fb_or.mpr (Or.inr rfl))
                       refine GG.lvs (lv' := [(6, .int (iI ((i + 1 : Nat) : Int))), (4, .int (iI ((t ||| 2 ^ (S 3 i).toNat : Nat) : Int))), (5, .int (iI (q : Int))), (0, .ref (a 0)), (1, .int (iI u)), (2, .int (iI v)), (3, .int (iI (w : Int)))]) (by rw [show i2 = ((i + 1 : Nat) : Int) by omega, e_s4]; simp [lk]) ?_
                       exact ih (i + 1) _ (by omega) (by omega) (RCH_step hG hR (by omega) (by omega) hcd.1 hcd.2.1 hcd.2.2.1 hcd.2.2.2) hin.1 hin.2)
                    | (have hnc : ¬ (S 6 i = 0 ∧ fb t (S 2 i) = true ∧ fb w (S 3 i) = false ∧ ¬ (S 2 i = u ∧ S 3 i = v)) := by
                         first
                           | exact fun q => h38 q.1
                           | exact fun q => h54 (fb_1.mpr q.2.1)
                           | exact fun q => h68 (fb_0.mpr q.2.2.1)
                           | exact fun q => q.2.2.2 ⟨by omega, by omega⟩
                       refine GG.lvs (lv' := [(6, .int (iI ((i + 1 : Nat) : Int))), (4, .int (iI (t : Int))), (5, .int (iI (q : Int))), (0, .ref (a 0)), (1, .int (iI u)), (2, .int (iI v)), (3, .int (iI (w : Int)))]) (by rw [show i2 = ((i + 1 : Nat) : Int) by omega, e_s4]; simp [lk]) ?_
                       exact ih (i + 1) t (by omega) (by omega) hR hsub (CLS_out hcl hnc))
                · refine g_iconst (z := 1) C d_M_isJoined_107 rfl rfl ?_
                  refine g_aload_n C d_M_isJoined_108 rfl rfl ?_
                  refine g_get C 0 3 i_M wY_0 rfl (by decide) k_M_13 rfl rfl d_M_isJoined_109 rfl ?_
                  refine g_iload C d_M_isJoined_112 rfl rfl ?_
                  refine g_iald C 2 0 wY_2 rfl (by omega) (by omega) (by decide) d_M_isJoined_114 rfl ?_
                  refine g_ishl (z := ((2 ^ (S 3 i).toNat : Nat) : Int)) C d_M_isJoined_115 (ishl_ok (by omega) (by omega)) rfl ?_
                  refine g_goto (tgt := 120) C d_M_isJoined_116 (by decide) ?_
                  refine g_ior (z := _) C d_M_isJoined_120 (by first | exact ior_z | exact ior_ok) rfl ?_
                  refine g_nm (fun s4 e_s4 => ?_)
                  refine g_istore (lv' := [(4, .int (iI s4)), (7, .int (iI c7)), (6, .int (iI (i : Int))), (5, .int (iI (q : Int))), (0, .ref (a 0)), (1, .int (iI u)), (2, .int (iI v)), (3, .int (iI (w : Int)))]) C d_M_isJoined_121 (by decide) rfl rfl ?_
                  obtain ⟨i2, e_i2⟩ : ∃ z : Int, z = (i : Int) + 1 := ⟨_, rfl⟩
                  refine g_iinc (q := 2) (z := i2) (lv' := [(6, .int (iI i2)), (4, .int (iI s4)), (7, .int (iI c7)), (5, .int (iI (q : Int))), (0, .ref (a 0)), (1, .int (iI u)), (2, .int (iI v)), (3, .int (iI (w : Int)))]) C d_M_isJoined_123 rfl e_i2.symm (by decide) rfl rfl ?_
                  refine g_goto (tgt := 22) C d_M_isJoined_126 (by decide) ?_
                  first
                    | (exfalso; omega)
                    | (have hcd : S 6 i = 0 ∧ fb t (S 2 i) = true ∧ fb w (S 3 i) = false ∧ ¬ (S 2 i = u ∧ S 3 i = v) := ⟨h38, fb_1.mp h54, fb_0.mp h68, by omega⟩
                       have hin := CLS_in (i := i) hsub hcl (fb_or.mpr (Or.inr rfl))
                       refine GG.lvs (lv' := [(6, .int (iI ((i + 1 : Nat) : Int))), (4, .int (iI ((t ||| 2 ^ (S 3 i).toNat : Nat) : Int))), (5, .int (iI (q : Int))), (0, .ref (a 0)), (1, .int (iI u)), (2, .int (iI v)), (3, .int (iI (w : Int)))]) (by rw [show i2 = ((i + 1 : Nat) : Int) by omega, e_s4]; simp [lk]) ?_
                       exact ih (i + 1) _ (by omega) (by omega) (RCH_step hG hR (by omega) (by omega) hcd.1 hcd.2.1 hcd.2.2.1 hcd.2.2.2) hin.1 hin.2)
                    | (have hnc : ¬ (S 6 i = 0 ∧ fb t (S 2 i) = true ∧ fb w (S 3 i) = false ∧ ¬ (S 2 i = u ∧ S 3 i = v)) := by
                         first
                           | exact fun q => h38 q.1
                           | exact fun q => h54 (fb_1.mpr q.2.1)
                           | exact fun q => h68 (fb_0.mpr q.2.2.1)
                           | exact fun q => q.2.2.2 ⟨by omega, by omega⟩
                       refine GG.lvs (lv' := [(6, .int (iI ((i + 1 : Nat) : Int))), (4, .int (iI (t : Int))), (5, .int (iI (q : Int))), (0, .ref (a 0)), (1, .int (iI u)), (2, .int (iI v)), (3, .int (iI (w : Int)))]) (by rw [show i2 = ((i + 1 : Nat) : Int) by omega, e_s4]; simp [lk]) ?_
                       exact ih (i + 1) t (by omega) (by omega) hR hsub (CLS_out hcl hnc))
              · refine g_iconst (z := 1) C d_M_isJoined_93 rfl rfl ?_
                refine g_goto (tgt := 98) C d_M_isJoined_94 (by decide) ?_
                refine g_nm (fun c7 e_c7 => ?_)
                refine g_istore (lv' := [(7, .int (iI c7)), (6, .int (iI (i : Int))), (4, .int (iI (t : Int))), (5, .int (iI (q : Int))), (0, .ref (a 0)), (1, .int (iI u)), (2, .int (iI v)), (3, .int (iI (w : Int)))]) C d_M_isJoined_98 (by decide) rfl rfl ?_
                refine g_iload C d_M_isJoined_100 rfl rfl ?_
                refine g_iload C d_M_isJoined_102 rfl rfl ?_
                refine g_if_eq (tgt := 119) C d_M_isJoined_104 (by decide) rfl (by omega) (fun h104 => ?_) (fun h104 => ?_)
                · refine g_iconst (z := 0) C d_M_isJoined_119 rfl rfl ?_
                  refine g_ior (z := _) C d_M_isJoined_120 (by first | exact ior_z | exact ior_ok) rfl ?_
                  refine g_nm (fun s4 e_s4 => ?_)
                  refine g_istore (lv' := [(4, .int (iI s4)), (7, .int (iI c7)), (6, .int (iI (i : Int))), (5, .int (iI (q : Int))), (0, .ref (a 0)), (1, .int (iI u)), (2, .int (iI v)), (3, .int (iI (w : Int)))]) C d_M_isJoined_121 (by decide) rfl rfl ?_
                  obtain ⟨i2, e_i2⟩ : ∃ z : Int, z = (i : Int) + 1 := ⟨_, rfl⟩
                  refine g_iinc (q := 2) (z := i2) (lv' := [(6, .int (iI i2)), (4, .int (iI s4)), (7, .int (iI c7)), (5, .int (iI (q : Int))), (0, .ref (a 0)), (1, .int (iI u)), (2, .int (iI v)), (3, .int (iI (w : Int)))]) C d_M_isJoined_123 rfl e_i2.symm (by decide) rfl rfl ?_
                  refine g_goto (tgt := 22) C d_M_isJoined_126 (by decide) ?_
                  first
                    | (exfalso; omega)
                    | (have hcd : S 6 i = 0 ∧ fb t (S 2 i) = true ∧ fb w (S 3 i) = false ∧ ¬ (S 2 i = u ∧ S 3 i = v) := ⟨h38, fb_1.mp h54, fb_0.mp h68, by omega⟩
                       have hin := CLS_in (i := i) hsub hcl (fb_or.mpr (Or.inr rfl))
                       refine GG.lvs (lv' := [(6, .int (iI ((i + 1 : Nat) : Int))), (4, .int (iI ((t ||| 2 ^ (S 3 i).toNat : Nat) : Int))), (5, .int (iI (q : Int))), (0, .ref (a 0)), (1, .int (iI u)), (2, .int (iI v)), (3, .int (iI (w : Int)))]) (by rw [show i2 = ((i + 1 : Nat) : Int) by omega, e_s4]; simp [lk]) ?_
                       exact ih (i + 1) _ (by omega) (by omega) (RCH_step hG hR (by omega) (by omega) hcd.1 hcd.2.1 hcd.2.2.1 hcd.2.2.2) hin.1 hin.2)
                    | (have hnc : ¬ (S 6 i = 0 ∧ fb t (S 2 i) = true ∧ fb w (S 3 i) = false ∧ ¬ (S 2 i = u ∧ S 3 i = v)) := by
                         first
                           | exact fun q => h38 q.1
                           | exact fun q => h54 (fb_1.mpr q.2.1)
                           | exact fun q => h68 (fb_0.mpr q.2.2.1)
                           | exact fun q => q.2.2.2 ⟨by omega, by omega⟩
                       refine GG.lvs (lv' := [(6, .int (iI ((i + 1 : Nat) : Int))), (4, .int (iI (t : Int))), (5, .int (iI (q : Int))), (0, .ref (a 0)), (1, .int (iI u)), (2, .int (iI v)), (3, .int (iI (w : Int)))]) (by rw [show i2 = ((i + 1 : Nat) : Int) by omega, e_s4]; simp [lk]) ?_
                       exact ih (i + 1) t (by omega) (by omega) hR hsub (CLS_out hcl hnc))
                · refine g_iconst (z := 1) C d_M_isJoined_107 rfl rfl ?_
                  refine g_aload_n C d_M_isJoined_108 rfl rfl ?_
                  refine g_get C 0 3 i_M wY_0 rfl (by decide) k_M_13 rfl rfl d_M_isJoined_109 rfl ?_
                  refine g_iload C d_M_isJoined_112 rfl rfl ?_
                  refine g_iald C 2 0 wY_2 rfl (by omega) (by omega) (by decide) d_M_isJoined_114 rfl ?_
                  refine g_ishl (z := ((2 ^ (S 3 i).toNat : Nat) : Int)) C d_M_isJoined_115 (ishl_ok (by omega) (by omega)) rfl ?_
                  refine g_goto (tgt := 120) C d_M_isJoined_116 (by decide) ?_
                  refine g_ior (z := _) C d_M_isJoined_120 (by first | exact ior_z | exact ior_ok) rfl ?_
                  refine g_nm (fun s4 e_s4 => ?_)
                  refine g_istore (lv' := [(4, .int (iI s4)), (7, .int (iI c7)), (6, .int (iI (i : Int))), (5, .int (iI (q : Int))), (0, .ref (a 0)), (1, .int (iI u)), (2, .int (iI v)), (3, .int (iI (w : Int)))]) C d_M_isJoined_121 (by decide) rfl rfl ?_
                  obtain ⟨i2, e_i2⟩ : ∃ z : Int, z = (i : Int) + 1 := ⟨_, rfl⟩
                  refine g_iinc (q := 2) (z := i2) (lv' := [(6, .int (iI i2)), (4, .int (iI s4)), (7, .int (iI c7)), (5, .int (iI (q : Int))), (0, .ref (a 0)), (1, .int (iI u)), (2, .int (iI v)), (3, .int (iI (w : Int)))]) C d_M_isJoined_123 rfl e_i2.symm (by decide) rfl rfl ?_
                  refine g_goto (tgt := 22) C d_M_isJoined_126 (by decide) ?_
                  first
                    | (exfalso; omega)
                    | (have hcd : S 6 i = 0 ∧ fb t (S 2 i) = true ∧ fb w (S 3 i) = false ∧ ¬ (S 2 i = u ∧ S 3 i = v) := ⟨h38, fb_1.mp h54, fb_0.mp h68, by omega⟩
                       have hin := CLS_in (i := i) hsub hcl (fb_or.mpr (Or.inr rfl))
                       refine GG.lvs (lv' := [(6, .int (iI ((i + 1 : Nat) : Int))), (4, .int (iI ((t ||| 2 ^ (S 3 i).toNat : Nat) : Int))), (5, .int (iI (q : Int))), (0, .ref (a 0)), (1, .int (iI u)), (2, .int (iI v)), (3, .int (iI (w : Int)))]) (by rw [show i2 = ((i + 1 : Nat) : Int) by omega, e_s4]; simp [lk]) ?_
                       exact ih (i + 1) _ (by omega) (by omega) (RCH_step hG hR (by omega) (by omega) hcd.1 hcd.2.1 hcd.2.2.1 hcd.2.2.2) hin.1 hin.2)
                    | (have hnc : ¬ (S 6 i = 0 ∧ fb t (S 2 i) = true ∧ fb w (S 3 i) = false ∧ ¬ (S 2 i = u ∧ S 3 i = v)) := by
                         first
                           | exact fun q => h38 q.1
                           | exact fun q => h54 (fb_1.mpr q.2.1)
                           | exact fun q => h68 (fb_0.mpr q.2.2.1)
                           | exact fun q => q.2.2.2 ⟨by omega, by omega⟩
                       refine GG.lvs (lv' := [(6, .int (iI ((i + 1 : Nat) : Int))), (4, .int (iI (t : Int))), (5, .int (iI (q : Int))), (0, .ref (a 0)), (1, .int (iI u)), (2, .int (iI v)), (3, .int (iI (w : Int)))]) (by rw [show i2 = ((i + 1 : Nat) : Int) by omega, e_s4]; simp [lk]) ?_
                       exact ih (i + 1) t (by omega) (by omega) hR hsub (CLS_out hcl hnc))

set_option maxRecDepth 100000 in
set_option maxHeartbeats 4000000 in
theorem join_end {l : Launch} {D : va_G} {a : Nat → Nat} {ki kz kl kq : ClassId} {p : Program} {e : Env} {s : State} {m : MethodId} {args : Array Value} {below : List Frame} {meth : Method} {c : Code} {S : Nat → Int → Int} {u v : Int} {w : Nat} (hG : GJ S) (hu : 0 ≤ u ∧ u < 8) (hv : 0 ≤ v ∧ v < 8) (hw : w < 256) (C : CX p s m args c b_M_isJoined 8 "NextPathsModel" TT D cls (tyz ki kz kl kq)) (hr : meth.sig.returnType = (some .boolean)) (hk : meth.locks = false) : ∀ (t q : Nat), RCH S u v w t → (t = q → CLS S u v w q (S 1 0).toNat) → t = q → GG p l e rm_M_isJoined s m args below meth c D cls (adr (wY a ki kz kl kq S)) 8 0 0 (MQ below (QcW D cls (wY a ki kz kl kq) S (pI fun r S' => S' = S ∧ ((r = 1 ∧ ∀ g : Int → Bool, ¬ clo (S 1 0).toNat (S 2) (S 3) (S 6) u v (fb w) g) ∨ (r = 0 ∧ ∃ g : Int → Bool, clo (S 1 0).toNat (S 2) (S 3) (S 6) u v (fb w) g)))) args s 0 0 (adr (wY a ki kz kl kq S))) (wY a ki kz kl kq) S [(4, .int (iI (t : Int))), (5, .int (iI (q : Int))), (0, .ref (a 0)), (1, .int (iI u)), (2, .int (iI v)), (3, .int (iI (w : Int)))] 8 [] := by
  intro t q hR hcl heq
  have hR2 := hR.2.1
  refine g_iload C d_M_isJoined_8 rfl rfl ?_
  refine g_iload C d_M_isJoined_10 rfl rfl ?_
  refine g_icmp_eq (tgt := 132) C d_M_isJoined_12 (by decide) rfl (by omega) (by omega) (fun h12 => ?_) (fun h12 => ?_)
  · refine g_iload C d_M_isJoined_132 rfl rfl ?_
    refine g_iload_n C d_M_isJoined_134 rfl rfl ?_
    refine g_ishr (z := ((t / 2 ^ v.toNat : Nat) : Int)) C d_M_isJoined_135 (ishr_ok (by omega) (by omega) (by omega)) rfl ?_
    refine g_iconst (z := 1) C d_M_isJoined_136 rfl rfl ?_
    refine g_iand (z := ((t / 2 ^ v.toNat % 2 : Nat) : Int)) C d_M_isJoined_137 iand1_ok rfl ?_
    refine g_iconst (z := 1) C d_M_isJoined_138 rfl rfl ?_
    refine g_icmp_ne (tgt := 146) C d_M_isJoined_139 (by decide) rfl fb_r (by omega) (fun h139 => ?_) (fun h139 => ?_)
    · refine g_iconst (z := 0) C d_M_isJoined_146 rfl rfl ?_
      refine g_zret C hr hk (by omega) d_M_isJoined_147 ⟨_, rfl, ?_⟩
      have hcls := hcl (by omega)
      first
        | exact ⟨rfl, Or.inl ⟨rfl, fun g hg => by
            have q1 := hR.2.2 g hg.1 (fun k k0 k1 => hg.2.2 k k0 (by omega)) v hv.1 (fb_1.mp h139)
            rw [hg.2.1] at q1; cases q1⟩⟩
        | exact ⟨rfl, Or.inr ⟨rfl, fb t, hR.1, fb_n1.mp h139, fun k k0 k1 => by
            have hcls2 := hcls; rw [show q = t by omega] at hcls2
            exact hcls2 k k0 k1⟩⟩
    · refine g_iconst (z := 1) C d_M_isJoined_142 rfl rfl ?_
      refine g_goto (tgt := 147) C d_M_isJoined_143 (by decide) ?_
      refine g_zret C hr hk (by omega) d_M_isJoined_147 ⟨_, rfl, ?_⟩
      have hcls := hcl (by omega)
      first
        | exact ⟨rfl, Or.inl ⟨rfl, fun g hg => by
            have q1 := hR.2.2 g hg.1 (fun k k0 k1 => hg.2.2 k k0 (by omega)) v hv.1 (fb_1.mp h139)
            rw [hg.2.1] at q1; cases q1⟩⟩
        | exact ⟨rfl, Or.inr ⟨rfl, fb t, hR.1, fb_n1.mp h139, fun k k0 k1 => by
            have hcls2 := hcls; rw [show q = t by omega] at hcls2
            exact hcls2 k k0 k1⟩⟩
  · exact absurd h12 (by omega)

set_option maxRecDepth 100000 in
set_option maxHeartbeats 4000000 in
theorem join_out {l : Launch} {D : va_G} {a : Nat → Nat} {ki kz kl kq : ClassId} {p : Program} {e : Env} {s : State} {m : MethodId} {args : Array Value} {below : List Frame} {meth : Method} {c : Code} {S : Nat → Int → Int} {u v : Int} {w : Nat} (hG : GJ S) (hu : 0 ≤ u ∧ u < 8) (hv : 0 ≤ v ∧ v < 8) (hw : w < 256) (C : CX p s m args c b_M_isJoined 8 "NextPathsModel" TT D cls (tyz ki kz kl kq)) (hr : meth.sig.returnType = (some .boolean)) (hk : meth.locks = false) : ∀ (j t q : Nat), 256 ≤ t + j → RCH S u v w t → t ≠ q → q < 256 → GG p l e rm_M_isJoined s m args below meth c D cls (adr (wY a ki kz kl kq S)) 8 0 0 (MQ below (QcW D cls (wY a ki kz kl kq) S (pI fun r S' => S' = S ∧ ((r = 1 ∧ ∀ g : Int → Bool, ¬ clo (S 1 0).toNat (S 2) (S 3) (S 6) u v (fb w) g) ∨ (r = 0 ∧ ∃ g : Int → Bool, clo (S 1 0).toNat (S 2) (S 3) (S 6) u v (fb w) g)))) args s 0 0 (adr (wY a ki kz kl kq S))) (wY a ki kz kl kq) S [(4, .int (iI (t : Int))), (5, .int (iI (q : Int))), (0, .ref (a 0)), (1, .int (iI u)), (2, .int (iI v)), (3, .int (iI (w : Int)))] 8 [] := by
  intro j
  induction j with
  | zero =>
    intro t q hj hR hne hq8
    exact absurd hR.2.1 (by omega)
  | succ j ih =>
    intro t q hj hR hne hq8
    have hR2 := hR.2.1
    refine g_iload C d_M_isJoined_8 rfl rfl ?_
    refine g_iload C d_M_isJoined_10 rfl rfl ?_
    refine g_icmp_eq (tgt := 132) C d_M_isJoined_12 (by decide) rfl (by omega) (by omega) (fun h12 => ?_) (fun h12 => ?_)
    · exact absurd h12 (by omega)
    · refine g_iload C d_M_isJoined_15 rfl rfl ?_
      refine g_nm (fun q2 e_q2 => ?_)
      refine g_istore (lv' := [(5, .int (iI q2)), (4, .int (iI (t : Int))), (0, .ref (a 0)), (1, .int (iI u)), (2, .int (iI v)), (3, .int (iI (w : Int)))]) C d_M_isJoined_17 (by decide) rfl rfl ?_
      refine g_iconst (z := 0) C d_M_isJoined_19 rfl rfl ?_
      refine g_nm (fun i0 e_i0 => ?_)
      refine g_istore (lv' := [(6, .int (iI i0)), (5, .int (iI q2)), (4, .int (iI (t : Int))), (0, .ref (a 0)), (1, .int (iI u)), (2, .int (iI v)), (3, .int (iI (w : Int)))]) C d_M_isJoined_20 (by decide) rfl rfl ?_
      subst e_i0
      subst e_q2
      refine GG.lvs (lv' := [(6, .int (iI ((0 : Nat) : Int))), (4, .int (iI (t : Int))), (5, .int (iI (t : Int))), (0, .ref (a 0)), (1, .int (iI u)), (2, .int (iI v)), (3, .int (iI (w : Int)))]) (by simp [lk]) ?_
      refine join_in hG hu hv hw C hr hk (fun t2 hR' hs' hc' => ?_) (S 1 0).toNat 0 t (by omega) (by omega) hR (Nat.or_self t) (fun _ k k0 k1 => by omega)
      by_cases e : t2 = t
      · exact join_end hG hu hv hw C hr hk t2 t hR' hc' e
      · exact ih t2 t (by have := or_le hs'; omega) hR' e hR2

set_option maxRecDepth 100000 in
set_option maxHeartbeats 4000000 in
theorem m_M_isJoined {l : Launch} {D : va_G} {a : Nat → Nat} {ki kz kl kq : ClassId} {S : Nat → Int → Int} {u v : Int} {w : Nat} (hG : GJ S) (hu : 0 ≤ u ∧ u < 8) (hv : 0 ≤ v ∧ v < 8) (hw : w < 256) : MY l D a ki kz kl kq y_M_isJoined b_M_isJoined 8 (some .boolean) rm_M_isJoined [.ref (a 0), .int (iI u), .int (iI v), .int (iI (w : Int))] S (pI fun r S' => S' = S ∧ ((r = 1 ∧ ∀ g : Int → Bool, ¬ clo (S 1 0).toNat (S 2) (S 3) (S 6) u v (fb w) g) ∨ (r = 0 ∧ ∃ g : Int → Bool, clo (S 1 0).toNat (S 2) (S 3) (S 6) u v (fb w) g))) := by
  refine MM.go b_M_isJoined 8 (some .boolean) "NextPathsModel" [(0, .ref (a 0)), (1, .int (iI u)), (2, .int (iI v)), (3, .int (iI (w : Int)))] (by decide) rfl rfl (Nat.le_of_ble_eq_true rfl) ?_
  intro p e s m args below meth c C hr hk
  refine g_iconst (z := 1) C d_M_isJoined_0 rfl rfl ?_
  refine g_iload_n C d_M_isJoined_1 rfl rfl ?_
  refine g_ishl (z := ((2 ^ u.toNat : Nat) : Int)) C d_M_isJoined_2 (ishl_ok hu.1 (by omega)) rfl ?_
  refine g_nm (fun s0 e_s0 => ?_)
  refine g_istore (lv' := [(4, .int (iI s0)), (0, .ref (a 0)), (1, .int (iI u)), (2, .int (iI v)), (3, .int (iI (w : Int)))]) C d_M_isJoined_3 (by decide) rfl rfl ?_
  refine g_iconst (z := 0) C d_M_isJoined_5 rfl rfl ?_
  refine g_nm (fun q0 e_q0 => ?_)
  refine g_istore (lv' := [(5, .int (iI q0)), (4, .int (iI s0)), (0, .ref (a 0)), (1, .int (iI u)), (2, .int (iI v)), (3, .int (iI (w : Int)))]) C d_M_isJoined_6 (by decide) rfl rfl ?_
  subst e_s0
  subst e_q0
  have hp0 : 0 < 2 ^ u.toNat := Nat.pow_pos (by omega)
  have hR : RCH S u v w (2 ^ u.toNat) := by
    refine ⟨?_, Nat.pow_lt_pow_right (a := 2) (m := u.toNat) (n := 8) (by omega) (by omega), fun g g1 g2 x x0 hx => ?_⟩
    · unfold fb; rw [Nat.testBit_two_pow]; simp
    · unfold fb at hx; rw [Nat.testBit_two_pow, decide_eq_true_eq] at hx
      rw [show x = u by omega]; exact g1
  refine GG.lvs (lv' := [(4, .int (iI ((2 ^ u.toNat : Nat) : Int))), (5, .int (iI ((0 : Nat) : Int))), (0, .ref (a 0)), (1, .int (iI u)), (2, .int (iI v)), (3, .int (iI (w : Int)))]) (by simp [lk]) ?_
  exact join_out hG hu hv hw C hr hk 256 _ 0 (by omega) hR (by omega) (by omega)

