/-! the class: the code of a path -/
theorem pw32 : ∀ m : Nat, m < 8 → (2 : Int) ^ (5 * m) = 32 ^ m := by decide +kernel
theorem take_s {P : List Int} {i : Nat} (h : i < P.length) : P.take (i + 1) = P.take i ++ [P.getD i 0] := by
  rw [List.take_add_one]
  simp [h]
/-- the arcs of the first i, each at its place -/
def acc (P : List Int) (i : Nat) : Int := rw_ (P.take i) * 32 ^ (7 - i)
theorem acc_0 (P : List Int) : acc P 0 = 0 := by simp [acc, rw_]
theorem acc_s {P : List Int} {i : Nat} (h : i < P.length) (h7 : i < 7) : acc P (i + 1) = acc P i + P.getD i 0 * 32 ^ (6 - i) := by
  unfold acc
  rw [take_s h, rw_app, show 7 - (i + 1) = 6 - i by omega, show 7 - i = (6 - i) + 1 by omega, Int.pow_succ, Int.add_mul]
  congr 1
  rw [Int.mul_assoc, Int.mul_comm 32]
theorem acc_bd {P : List Int} (h : ok5 P) {i : Nat} (hi : i ≤ P.length) : 0 ≤ rw_ (P.take i) ∧ acc P i < 34359738368 := by
  have hl : (P.take i).length = i := by rw [List.length_take]; omega
  have h5 : ok5 (P.take i) := ⟨by have := h.1; omega, fun k hk => h.2 k (List.mem_of_mem_take hk)⟩
  have hb := rw_bd h5
  rw [hl] at hb
  refine ⟨?_, hb.2⟩
  refine Classical.byContradiction (fun q => ?_)
  have : rw_ (P.take i) * 32 ^ (7 - i) < 0 := Int.mul_neg_of_neg_of_pos (by omega) (Int.pow_pos (by omega))
  omega
theorem acc_or {P : List Int} (h : ok5 P) {i : Nat} (hi : i < P.length) : lI (acc P i) ||| lI (P.getD i 0 * 2 ^ (5 * (6 - (i : Int))).toNat) = lI (acc P (i + 1)) := by
  have h7 : i < 7 := by have := h.1; omega
  have hk : 0 ≤ P.getD i 0 ∧ P.getD i 0 < 32 := by
    have := h.2 (P.getD i 0) (by simp [hi])
    exact this
  have e1 : (5 * (6 - (i : Int))).toNat = 5 * (6 - i) := by omega
  have b1 := acc_bd h (i := i) (by omega)
  have b2 := acc_bd h (i := i + 1) (by omega)
  rw [e1, pw32 _ (by omega), acc_s hi h7]
  have e2 : acc P i = rw_ (P.take i) * ((2 ^ (5 * (7 - i)) : Nat) : Int) := by
    unfold acc
    rw [Int.natCast_pow, ← pw32 _ (by omega)]
    rfl
  have e3 : P.getD i 0 * 32 ^ (6 - i) < ((2 ^ (5 * (7 - i)) : Nat) : Int) := by
    rw [Int.natCast_pow]
    show _ < (2 : Int) ^ (5 * (7 - i))
    rw [pw32 _ (by omega), show 7 - i = (6 - i) + 1 by omega, Int.pow_succ, Int.mul_comm]
    exact Int.mul_lt_mul_of_pos_left hk.2 (Int.pow_pos (by omega))
  have e4 : 0 ≤ P.getD i 0 * 32 ^ (6 - i) := Int.mul_nonneg hk.1 (Int.le_of_lt (Int.pow_pos (by omega)))
  have e5 := b2.2
  rw [acc_s hi h7] at e5
  rw [e2] at e5 ⊢
  exact lor_ok _ (by omega) b1.1 e4 e3 (by omega)
theorem cd_acc {W : Int → Int} {P : List Int} : cd W P = (wp W P * 8 + P.length) * 34359738368 + acc P P.length := by
  unfold cd acc
  rw [List.take_length]
  omega

set_option maxRecDepth 100000 in
set_option maxHeartbeats 4000000 in
theorem lo_P_code {l : Launch} {D : va_G} {a : Nat → Nat} {ki kz kl kq : ClassId} {p : Program} {e : Env} {s : State} {m : MethodId} {args : Array Value} {below : List Frame} {meth : Method} {c : Code} {S : Nat → Int → Int} {P : List Int} (hP : ok5 P) (hc : ∀ i : Nat, i < P.length → S 19 (i : Int) = P.getD i 0) (hr5 : ∀ k, k ∈ P → k < 20) (hW : ∀ k, 0 ≤ S 4 k ∧ S 4 k ≤ 1000) (C : CX p s m args c b_P_code 6 "NextPaths$PathFinder" TT D cls (tyz ki kz kl kq)) (hr : meth.sig.returnType = (some .long)) (hk : meth.locks = false) : ∀ (k i : Nat), i ≤ P.length → P.length ≤ i + k → GG p l e rm_P_code s m args below meth c D cls (adr (wX a ki kz kl kq S)) 6 0 0 (MQ below (QcW D cls (wX a ki kz kl kq) S (pL fun r S' => S' = S ∧ r = cd (S 4) P)) args s 0 0 (adr (wX a ki kz kl kq S))) (wX a ki kz kl kq) S [(5, .int (iI (i : Int))), (3, .long (lI (acc P i))), (2, .int (iI (wp (S 4) (P.take i)))), (0, .ref (a 19)), (1, .int (iI (P.length : Int)))] 7 [] := by
  intro k
  induction k with
  | zero =>
    intro i hi hk0
    have h7 := hP.1
    refine g_iload C d_P_code_7 rfl rfl ?_
    refine g_iload_n C d_P_code_9 rfl rfl ?_
    refine g_icmp_ge (tgt := 52) C d_P_code_10 (by decide) rfl (by omega) (by omega) (fun h10 => ?_) (fun h10 => ?_)
    · have hi : i = P.length := by omega
      subst hi
      have hwb := wp_bd hW P
      have h7 := hP.1
      have hab := acc_bd hP (Nat.le_refl _)
      rw [List.take_length]
      have code_end : lI (wp (S 4) P * 274877906944 + (P.length : Int) * 34359738368) ||| lI (acc P P.length) = lI (cd (S 4) P) := by
        have e0 : wp (S 4) P * 274877906944 + (P.length : Int) * 34359738368 = (wp (S 4) P * 8 + P.length) * ((2 ^ 35 : Nat) : Int) := by omega
        have h0 : 0 ≤ acc P P.length := Int.mul_nonneg hab.1 (Int.le_of_lt (Int.pow_pos (by omega)))
        rw [e0, cd_acc]
        exact lor_ok 35 (by decide) (by omega) h0 (by omega) (by omega)
      refine g_iload_n C d_P_code_52 rfl rfl ?_
      refine g_iload_n C d_P_code_53 rfl rfl ?_
      refine g_runL (wX_fix a ki kz kl kq) rfl (rn_SN C (m_C_head (by omega) (by omega)) 2 kc_C_head k_P_72 ks_C_head kn_C hy_C_head ⟨rfl, rfl⟩ ⟨by decide, by decide⟩ ⟨Nat.le_refl _, Nat.le_refl _⟩ rfl rfl (Nat.le_of_ble_eq_true rfl) d_P_code_54) (fun r S' hp => ?_)
      obtain ⟨hS1, rfl⟩ := hp
      refine GG.at hS1 ?_
      refine g_lload_n C d_P_code_57 rfl rfl ?_
      refine g_lor (z := (cd (S 4) P)) C d_P_code_58 code_end rfl ?_
      refine g_lret C hr hk d_P_code_59 ⟨_, rfl, ?_⟩
      exact ⟨rfl, rfl⟩
    · exact absurd h10 (by omega)
  | succ k ih =>
    intro i hi hk0
    have h7 := hP.1
    refine g_iload C d_P_code_7 rfl rfl ?_
    refine g_iload_n C d_P_code_9 rfl rfl ?_
    refine g_icmp_ge (tgt := 52) C d_P_code_10 (by decide) rfl (by omega) (by omega) (fun h10 => ?_) (fun h10 => ?_)
    · have hi : i = P.length := by omega
      subst hi
      have hwb := wp_bd hW P
      have h7 := hP.1
      have hab := acc_bd hP (Nat.le_refl _)
      rw [List.take_length]
      have code_end : lI (wp (S 4) P * 274877906944 + (P.length : Int) * 34359738368) ||| lI (acc P P.length) = lI (cd (S 4) P) := by
        have e0 : wp (S 4) P * 274877906944 + (P.length : Int) * 34359738368 = (wp (S 4) P * 8 + P.length) * ((2 ^ 35 : Nat) : Int) := by omega
        have h0 : 0 ≤ acc P P.length := Int.mul_nonneg hab.1 (Int.le_of_lt (Int.pow_pos (by omega)))
        rw [e0, cd_acc]
        exact lor_ok 35 (by decide) (by omega) h0 (by omega) (by omega)
      refine g_iload_n C d_P_code_52 rfl rfl ?_
      refine g_iload_n C d_P_code_53 rfl rfl ?_
      refine g_runL (wX_fix a ki kz kl kq) rfl (rn_SN C (m_C_head (by omega) (by omega)) 2 kc_C_head k_P_72 ks_C_head kn_C hy_C_head ⟨rfl, rfl⟩ ⟨by decide, by decide⟩ ⟨Nat.le_refl _, Nat.le_refl _⟩ rfl rfl (Nat.le_of_ble_eq_true rfl) d_P_code_54) (fun r S' hp => ?_)
      obtain ⟨hS1, rfl⟩ := hp
      refine GG.at hS1 ?_
      refine g_lload_n C d_P_code_57 rfl rfl ?_
      refine g_lor (z := (cd (S 4) P)) C d_P_code_58 code_end rfl ?_
      refine g_lret C hr hk d_P_code_59 ⟨_, rfl, ?_⟩
      exact ⟨rfl, rfl⟩
    · have hlt : i < P.length := by omega
      have hk32 := hP.2 (P.getD i 0) (by simp [hlt])
      have hk20 := hr5 (P.getD i 0) (by simp [hlt])
      refine g_iload_n C d_P_code_13 rfl rfl ?_
      refine g_aload_n C d_P_code_14 rfl rfl ?_
      refine g_get C 19 0 i_P wX_19 rfl (by decide) k_P_19 rfl rfl d_P_code_15 rfl ?_
      refine g_getN C 1 4 i_G wX_1 rfl (by decide) k_P_63 rfl rfl d_P_code_18 rfl ?_
      refine g_aload_n C d_P_code_21 rfl rfl ?_
      refine g_get C 19 3 i_P wX_19 rfl (by decide) k_P_15 rfl rfl d_P_code_22 rfl ?_
      refine g_iload C d_P_code_25 rfl rfl ?_
      refine g_iald C 21 0 wX_21 rfl (by omega) (by omega) (by decide) d_P_code_27 rfl ?_
      refine g_v (z' := P.getD i 0) (hc i hlt) ?_
      refine g_iald C 4 0 wX_4 rfl (by omega) (by omega) (by decide) d_P_code_28 rfl ?_
      refine g_iadd C d_P_code_29 rfl rfl ?_
      refine g_nm (fun w2 e_w2 => ?_)
      refine g_istore_n (lv' := [(2, .int (iI w2)), (5, .int (iI (i : Int))), (3, .long (lI (acc P i))), (0, .ref (a 19)), (1, .int (iI (P.length : Int)))]) C d_P_code_30 (by decide) rfl rfl ?_
      refine g_lload_n C d_P_code_31 rfl rfl ?_
      refine g_aload_n C d_P_code_32 rfl rfl ?_
      refine g_get C 19 3 i_P wX_19 rfl (by decide) k_P_15 rfl rfl d_P_code_33 rfl ?_
      refine g_iload C d_P_code_36 rfl rfl ?_
      refine g_iald C 21 0 wX_21 rfl (by omega) (by omega) (by decide) d_P_code_38 rfl ?_
      refine g_v (z' := P.getD i 0) (hc i hlt) ?_
      refine g_iload C d_P_code_39 rfl rfl ?_
      refine g_runL (wX_fix a ki kz kl kq) rfl (rn_SN C (m_C_arcAt (by omega) (by omega)) 2 kc_C_arcAt k_P_66 ks_C_arcAt kn_C hy_C_arcAt ⟨rfl, rfl⟩ ⟨by decide, by decide⟩ ⟨Nat.le_refl _, Nat.le_refl _⟩ rfl rfl (Nat.le_of_ble_eq_true rfl) d_P_code_41) (fun r S' hp => ?_)
      obtain ⟨hS1, rfl⟩ := hp
      refine GG.at hS1 ?_
      refine g_lor (z := (acc P (i + 1))) C d_P_code_44 (acc_or hP hlt) rfl ?_
      refine g_nml (fun ac2 e_ac2 => ?_)
      refine g_lstore_n (lv' := [(3, .long (lI ac2)), (2, .int (iI w2)), (5, .int (iI (i : Int))), (0, .ref (a 19)), (1, .int (iI (P.length : Int)))]) C d_P_code_45 (by decide) rfl rfl ?_
      obtain ⟨i2, e_i2⟩ : ∃ z : Int, z = (i : Int) + 1 := ⟨_, rfl⟩
      refine g_iinc (q := 2) (z := i2) (lv' := [(5, .int (iI i2)), (3, .long (lI ac2)), (2, .int (iI w2)), (0, .ref (a 19)), (1, .int (iI (P.length : Int)))]) C d_P_code_46 rfl e_i2.symm (by decide) rfl rfl ?_
      refine g_goto (tgt := 7) C d_P_code_49 (by decide) ?_
      refine GG.lvs (lv' := [(5, .int (iI ((i + 1 : Nat) : Int))), (3, .long (lI (acc P (i + 1)))), (2, .int (iI (wp (S 4) (P.take (i + 1))))), (0, .ref (a 19)), (1, .int (iI (P.length : Int)))]) ?_ (ih (i + 1) (by omega) (by omega))
      have q1 : i2 = ((i + 1 : Nat) : Int) := by omega
      have q2 : w2 = wp (S 4) (P.take (i + 1)) := by rw [e_w2, take_s hlt, wp_app]; simp [wp]
      subst q1; subst q2; subst e_ac2
      simp [lk]

set_option maxRecDepth 100000 in
set_option maxHeartbeats 4000000 in
theorem m_P_code {l : Launch} {D : va_G} {a : Nat → Nat} {ki kz kl kq : ClassId} {S : Nat → Int → Int} {P : List Int} (hP : ok5 P) (hc : ∀ i : Nat, i < P.length → S 19 (i : Int) = P.getD i 0) (hr5 : ∀ k, k ∈ P → k < 20) (hW : ∀ k, 0 ≤ S 4 k ∧ S 4 k ≤ 1000) : MX l D a ki kz kl kq y_P_code b_P_code 6 (some .long) rm_P_code [.ref (a 19), .int (iI (P.length : Int))] S (pL fun r S' => S' = S ∧ r = cd (S 4) P) := by
  refine MM.go b_P_code 6 (some .long) "NextPaths$PathFinder" [(0, .ref (a 19)), (1, .int (iI (P.length : Int)))] (by decide) rfl rfl (Nat.le_of_ble_eq_true rfl) ?_
  intro p e s m args below meth c C hr hk
  refine g_iconst (z := 0) C d_P_code_0 rfl rfl ?_
  refine g_nm (fun w0 e_w0 => ?_)
  refine g_istore_n (lv' := [(2, .int (iI w0)), (0, .ref (a 19)), (1, .int (iI (P.length : Int)))]) C d_P_code_1 (by decide) rfl rfl ?_
  refine g_lconst (z := 0) C d_P_code_2 rfl rfl ?_
  refine g_nml (fun a0 e_a0 => ?_)
  refine g_lstore_n (lv' := [(3, .long (lI a0)), (2, .int (iI w0)), (0, .ref (a 19)), (1, .int (iI (P.length : Int)))]) C d_P_code_3 (by decide) rfl rfl ?_
  refine g_iconst (z := 0) C d_P_code_4 rfl rfl ?_
  refine g_nm (fun i0 e_i0 => ?_)
  refine g_istore (lv' := [(5, .int (iI i0)), (3, .long (lI a0)), (2, .int (iI w0)), (0, .ref (a 19)), (1, .int (iI (P.length : Int)))]) C d_P_code_5 (by decide) rfl rfl ?_
  refine GG.lvs (lv' := [(5, .int (iI ((0 : Nat) : Int))), (3, .long (lI (acc P 0))), (2, .int (iI (wp (S 4) (P.take 0)))), (0, .ref (a 19)), (1, .int (iI (P.length : Int)))]) ?_ (lo_P_code hP hc hr5 hW C hr hk P.length 0 (by omega) (by omega))
  subst e_w0; subst e_a0; subst e_i0
  rw [acc_0]
  simp [lk, wp]

