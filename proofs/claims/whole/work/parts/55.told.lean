/-! the class: all paths found, second weights, the path told -/
def BZ (S : Nat → Int → Int) : Prop := ∀ v : Int, 0 ≤ v → v < 8 → S 18 v = 0
abbrev spS (S : Nat → Int → Int) (u b : Int) : List (List Int) := sp (S 1 0).toNat (S 2) (S 3) (S 6) (S 4) u b
/-- k of the paths have been taken out of the heap -/
def FNk (S S' : Nat → Int → Int) (u b : Int) (k : Nat) : Prop := eqx [16, 17, 18, 19, 20] S S' ∧ BZ S' ∧ HPs S' ((spS S u b).length - k) ∧ ∀ v, ct (S' 16) v ((spS S u b).length - k) = ((((spS S u b).drop k).map (cd (S 4))).count v : Nat)
theorem FNk_0 {S S1 S' : Nat → Int → Int} {u b : Int} (h1 : S1 = us (us S 17 0 0) 20 0 b) (hz : BZ S) (h : wkp S1 S' 0 0 (cds S1 [] (dfS S1 b 7 u []))) : FNk S S' u b 0 := by
  obtain ⟨a1, a2, a3, a4, a5⟩ := h
  have g : ∀ j, j ≠ 17 → j ≠ 20 → S1 j = S j := fun j h17 h20 => by rw [h1, us_n h20, us_n h17]
  have e0 : cds S1 [] (dfS S1 b 7 u []) = (dfS S b 7 u []).map (cd (S 4)) := by
    unfold cds dfS
    rw [g 1 (by decide) (by decide), g 2 (by decide) (by decide), g 3 (by decide) (by decide), g 4 (by decide) (by decide), g 6 (by decide) (by decide)]
    simp
  have hp : (spS S u b).Perm (dfS S b 7 u []) := sp_perm
  rw [e0] at a4 a5
  rw [List.length_map, ← hp.length_eq, Nat.zero_add] at a4
  refine ⟨fun j hj => ?_, fun v v0 v1 => ?_, by simpa using a4, fun v => ?_⟩
  · rw [a1 j (by simp at hj ⊢; omega), g j (by simp at hj; omega) (by simp at hj; omega)]
  · rw [a2 v v0 v1, g 18 (by decide) (by decide)]; exact hz v v0 v1
  · have := a5 v
    rw [List.length_map, ← hp.length_eq, Nat.zero_add, ct_0, (hp.symm.map (cd (S 4))).count_eq] at this
    simpa using this
theorem FNk_take {S S1 S2 : Nat → Int → Int} {u b : Int} {k : Nat} (hk : k < (spS S u b).length) (h : FNk S S1 u b k) (h2 : htak S1 S2 ((spS S u b).length - (k + 1))) : FNk S S2 u b (k + 1) ∧ S1 16 0 = cd (S 4) ((spS S u b).getD k []) := by
  obtain ⟨a1, a2, a3, a4⟩ := h
  obtain ⟨b1, b2, b3, b4, b5⟩ := h2
  have hd : (spS S u b).drop k = (spS S u b).getD k [] :: (spS S u b).drop (k + 1) := by
    rw [List.drop_eq_getElem_cons hk]
    simp [hk]
  have hl : (spS S u b).length - k = ((spS S u b).length - (k + 1)) + 1 := by omega
  have hsort : ((cd (S 4) ((spS S u b).getD k [])) :: ((spS S u b).drop (k + 1)).map (cd (S 4))).Pairwise (fun x y => x ≤ y) := by
    have h9 : ((spS S u b).drop k).Pairwise (fun P Q => cd (S 4) P ≤ cd (S 4) Q) := List.Pairwise.sublist (List.drop_sublist _ _) sp_sorted
    rw [hd] at h9
    have h8 := List.pairwise_map.mpr h9
    exact h8
  have hc : ∀ v, ct (S1 16) v ((spS S u b).length - k) = ((cd (S 4) ((spS S u b).getD k []) :: ((spS S u b).drop (k + 1)).map (cd (S 4))).count v : Nat) := fun v => by
    rw [a4 v, hd]; rfl
  have h0 := hp_first a3.2.1 hsort hc (by omega)
  refine ⟨⟨fun j hj => ?_, fun v v0 v1 => ?_, ⟨b2, b3, b5⟩, fun v => ?_⟩, h0⟩
  · rw [b1 j (by simp at hj ⊢; omega), a1 j hj]
  · rw [b1 18 (by decide)]; exact a2 v v0 v1
  · have q1 := b4 v
    have q2 := hc v
    rw [hl] at q2
    rw [← q1, h0, List.count_cons] at q2
    simp only [beq_iff_eq] at q2
    by_cases c : cd (S 4) ((spS S u b).getD k []) = v
    · rw [if_pos c, if_pos c] at q2; omega
    · rw [if_neg c, if_neg c] at q2; omega

set_option maxRecDepth 100000 in
set_option maxHeartbeats 4000000 in
theorem m_P_findAll {l : Launch} {D : va_G} {a : Nat → Nat} {ki kz kl kq : ClassId} {S : Nat → Int → Int} {u b : Int} (hG : GIs S) (hz : BZ S) (hu : 0 ≤ u ∧ u < S 0 0) (hv : 0 ≤ b ∧ b < S 0 0) : MX l D a ki kz kl kq y_P_findAll b_P_findAll 3 none rm_P_findAll [.ref (a 19), .int (iI u), .int (iI b)] S (pV fun S' => FNk S S' u b 0) := by
  refine MM.go b_P_findAll 3 none "NextPaths$PathFinder" [(0, .ref (a 19)), (1, .int (iI u)), (2, .int (iI b))] (by decide) rfl rfl (Nat.le_of_ble_eq_true rfl) ?_
  intro p e s m args below meth c C hr hk
  refine g_aload_n C d_P_findAll_0 rfl rfl ?_
  refine g_get C 19 1 i_P wX_19 rfl (by decide) k_P_23 rfl rfl d_P_findAll_1 rfl ?_
  refine g_runV (wX_fix a ki kz kl kq) rfl (rn_VN C (m_H_empty) 17 0 wX_17 rfl rfl kc_H_empty k_P_27 ki_H_empty kx_H_empty kn_H hy_H_empty ⟨rfl, rfl⟩ ⟨by decide, by decide⟩ ⟨Nat.le_refl _, Nat.le_refl _⟩ rfl rfl (Nat.le_of_ble_eq_true rfl) d_P_findAll_4) (fun S1 hp => ?_)
  subst hp
  refine g_aload_n C d_P_findAll_7 rfl rfl ?_
  refine g_iload_n C d_P_findAll_8 rfl rfl ?_
  refine g_put (ty := .int) C 19 4 ty_P i_P ty_P_ok n_P wX_19 rfl (by decide) k_P_32 rfl rfl (by decide +kernel) rfl rfl (Nat.le_of_ble_eq_true rfl) wX_p19_4 d_P_findAll_9 rfl ?_
  have hq : wkq (us (us S 17 0 0) 20 0 b) b u [] [] 0 7 := by
    have hn8 := hG.1
    refine ⟨GIs_eq (fun k hk => by rw [us_n (by omega), us_n (by omega)]) hG, by rw [us_s, up_s], by omega, by omega, by simp, fun v v0 v1 => ?_, rfl, fun i hi => by simp at hi, fun k hk => by simp at hk, ⟨?_, ?_, ?_⟩, ?_⟩
    · rw [us_n (by decide), us_n (by decide), hz v v0 v1]; simp
    · rw [us_n (by decide), us_s, up_s]; rfl
    · intro i i0 i1; omega
    · intro i i0 i1; omega
    · have := sp_len hG.2.2.1 (a := u) (b := b) (by omega) (by omega)
      rw [(sp_perm (n := (S 1 0).toNat) (F := S 2) (T := S 3) (Sh := S 6) (W := S 4) (a := u) (b := b)).length_eq] at this
      rw [Nat.zero_add]
      exact this
  refine g_aload_n C d_P_findAll_12 rfl rfl ?_
  refine g_iload_n C d_P_findAll_13 rfl rfl ?_
  refine g_iconst (z := 0) C d_P_findAll_14 rfl rfl ?_
  refine g_runV (wX_fix a ki kz kl kq) rfl (rn_S C (m_P_walkOn 7 _ u [] [] 0 hq) 3 kc_P_walkOn k_P_36 ks_P_walkOn kn_P hy_P_walkOn ⟨rfl, rfl⟩ ⟨by decide, by decide⟩ ⟨Nat.le_refl _, Nat.le_refl _⟩ rfl rfl (Nat.le_of_ble_eq_true rfl) d_P_findAll_15) (fun S1 hp => ?_)
  refine g_vret C hr hk d_P_findAll_18 ⟨rfl, ?_⟩
  exact FNk_0 rfl hz hp

set_option maxRecDepth 100000 in
set_option maxHeartbeats 4000000 in
theorem lo_G_secondOf {l : Launch} {D : va_G} {a : Nat → Nat} {ki kz kl kq : ClassId} {p : Program} {e : Env} {s : State} {m : MethodId} {args : Array Value} {below : List Frame} {meth : Method} {c : Code} {S : Nat → Int → Int} {W : Int → Int} {P : List Int} {x : Int} (hP : ok5 P) (hW : ∀ k, 0 ≤ W k ∧ W k ≤ 1000) (hx : x = cd W P) (hn : 0 ≤ S 1 0 ∧ S 1 0 ≤ 20) (ha : ∀ k, k ∈ P → k < S 1 0) (h5 : ∀ k, 0 ≤ S 5 k ∧ S 5 k ≤ 1000) (C : CX p s m args c b_G_secondOf 6 "NextPaths$Graph" TT D cls (tyz ki kz kl kq)) (hr : meth.sig.returnType = (some .int)) (hk : meth.locks = false) : ∀ (k i : Nat), i ≤ P.length → P.length ≤ i + k → GG p l e rm_G_secondOf s m args below meth c D cls (adr (wX a ki kz kl kq S)) 6 0 0 (MQ below (QcW D cls (wX a ki kz kl kq) S (pI fun r S' => S' = S ∧ r = wp (S 5) P)) args s 0 0 (adr (wX a ki kz kl kq S))) (wX a ki kz kl kq) S [(4, .int (iI (i : Int))), (3, .int (iI (wp (S 5) (P.take i)))), (0, .ref (a 1)), (1, .long (lI x))] 5 [] := by
  intro k
  induction k with
  | zero =>
    intro i hi hk0
    have h7 := hP.1
    have hxb : 0 ≤ x ∧ x < 2251799813685248 := by rw [hx]; exact cd_bd hW hP
    refine g_iload C d_G_secondOf_5 rfl rfl ?_
    refine g_lload_n C d_G_secondOf_7 rfl rfl ?_
    refine g_runI (wX_fix a ki kz kl kq) rfl (rn_SN C (m_C_lengthIn hxb) 1 kc_C_lengthIn k_G_57 ks_C_lengthIn kn_C hy_C_lengthIn ⟨rfl, rfl⟩ ⟨by decide, by decide⟩ ⟨Nat.le_refl _, Nat.le_refl _⟩ rfl rfl (Nat.le_of_ble_eq_true rfl) d_G_secondOf_8) (fun r S1 hp => ?_)
    obtain ⟨hS1, rfl⟩ := hp
    refine GG.at hS1 ?_
    refine g_v (z' := (P.length : Int)) (by rw [hx]; exact cd_l hP) ?_
    refine g_icmp_ge (tgt := 47) C d_G_secondOf_11 (by decide) rfl (by omega) (by omega) (fun h11 => ?_) (fun h11 => ?_)
    · refine g_iload_n C d_G_secondOf_47 rfl rfl ?_
      refine g_iret C hr hk d_G_secondOf_48 ⟨_, rfl, ?_⟩
      have hi2 : i = P.length := by omega
      subst hi2
      rw [List.take_length]
      exact ⟨rfl, rfl⟩
    · exact absurd h11 (by omega)
  | succ k ih =>
    intro i hi hk0
    have h7 := hP.1
    have hxb : 0 ≤ x ∧ x < 2251799813685248 := by rw [hx]; exact cd_bd hW hP
    refine g_iload C d_G_secondOf_5 rfl rfl ?_
    refine g_lload_n C d_G_secondOf_7 rfl rfl ?_
    refine g_runI (wX_fix a ki kz kl kq) rfl (rn_SN C (m_C_lengthIn hxb) 1 kc_C_lengthIn k_G_57 ks_C_lengthIn kn_C hy_C_lengthIn ⟨rfl, rfl⟩ ⟨by decide, by decide⟩ ⟨Nat.le_refl _, Nat.le_refl _⟩ rfl rfl (Nat.le_of_ble_eq_true rfl) d_G_secondOf_8) (fun r S1 hp => ?_)
    obtain ⟨hS1, rfl⟩ := hp
    refine GG.at hS1 ?_
    refine g_v (z' := (P.length : Int)) (by rw [hx]; exact cd_l hP) ?_
    refine g_icmp_ge (tgt := 47) C d_G_secondOf_11 (by decide) rfl (by omega) (by omega) (fun h11 => ?_) (fun h11 => ?_)
    · refine g_iload_n C d_G_secondOf_47 rfl rfl ?_
      refine g_iret C hr hk d_G_secondOf_48 ⟨_, rfl, ?_⟩
      have hi2 : i = P.length := by omega
      subst hi2
      rw [List.take_length]
      exact ⟨rfl, rfl⟩
    · have hlt : i < P.length := by omega
      have hk32 := hP.2 (P.getD i 0) (by simp [hlt])
      have hkn := ha (P.getD i 0) (by simp [hlt])
      refine g_lload_n C d_G_secondOf_14 rfl rfl ?_
      refine g_iload C d_G_secondOf_15 rfl rfl ?_
      refine g_runI (wX_fix a ki kz kl kq) rfl (rn_SN C (m_C_arcIn hxb (by omega)) 2 kc_C_arcIn k_G_63 ks_C_arcIn kn_C hy_C_arcIn ⟨rfl, rfl⟩ ⟨by decide, by decide⟩ ⟨Nat.le_refl _, Nat.le_refl _⟩ rfl rfl (Nat.le_of_ble_eq_true rfl) d_G_secondOf_17) (fun r S1 hp => ?_)
      obtain ⟨hS1, rfl⟩ := hp
      refine GG.at hS1 ?_
      refine g_v (z' := P.getD i 0) (by rw [hx]; exact cd_a hP i hlt) ?_
      refine g_nm (fun k1 e_k1 => ?_)
      refine g_istore (lv' := [(5, .int (iI k1)), (4, .int (iI (i : Int))), (3, .int (iI (wp (S 5) (P.take i)))), (0, .ref (a 1)), (1, .long (lI x))]) C d_G_secondOf_20 (by decide) rfl rfl ?_
      refine g_aload_n C d_G_secondOf_22 rfl rfl ?_
      refine g_iload C d_G_secondOf_23 rfl rfl ?_
      refine g_runI (wX_fix a ki kz kl kq) rfl (rn_V C (m_G_isArc (by omega) hn) 1 1 wX_1 rfl rfl kc_G_isArc k_G_67 ki_G_isArc kx_G_isArc kn_G hy_G_isArc ⟨rfl, rfl⟩ ⟨by decide, by decide⟩ ⟨Nat.le_refl _, Nat.le_refl _⟩ rfl rfl (Nat.le_of_ble_eq_true rfl) d_G_secondOf_25) (fun r S1 hp => ?_)
      obtain ⟨hS1, hp⟩ := hp
      refine GG.at hS1 ?_
      refine g_if_eq (tgt := 41) C d_G_secondOf_28 (by decide) rfl (by omega) (fun h28 => ?_) (fun h28 => ?_)
      · exact absurd h28 (by omega)
      · have hs5 := h5 k1
        have hwb := wp_bd h5 (P.take i)
        refine g_iload_n C d_G_secondOf_31 rfl rfl ?_
        refine g_aload_n C d_G_secondOf_32 rfl rfl ?_
        refine g_get C 1 5 i_G wX_1 rfl (by decide) k_G_21 rfl rfl d_G_secondOf_33 rfl ?_
        refine g_iload C d_G_secondOf_36 rfl rfl ?_
        refine g_iald C 5 0 wX_5 rfl (by omega) (by omega) (by decide) d_G_secondOf_38 rfl ?_
        refine g_iadd C d_G_secondOf_39 rfl rfl ?_
        refine g_nm (fun t2 e_t2 => ?_)
        refine g_istore_n (lv' := [(3, .int (iI t2)), (5, .int (iI k1)), (4, .int (iI (i : Int))), (0, .ref (a 1)), (1, .long (lI x))]) C d_G_secondOf_40 (by decide) rfl rfl ?_
        obtain ⟨i2, e_i2⟩ : ∃ z : Int, z = (i : Int) + 1 := ⟨_, rfl⟩
        refine g_iinc (q := 2) (z := i2) (lv' := [(4, .int (iI i2)), (3, .int (iI t2)), (5, .int (iI k1)), (0, .ref (a 1)), (1, .long (lI x))]) C d_G_secondOf_41 rfl e_i2.symm (by decide) rfl rfl ?_
        refine g_goto (tgt := 5) C d_G_secondOf_44 (by decide) ?_
        refine GG.lvs (lv' := [(4, .int (iI ((i + 1 : Nat) : Int))), (3, .int (iI (wp (S 5) (P.take (i + 1))))), (0, .ref (a 1)), (1, .long (lI x))]) ?_ (ih (i + 1) (by omega) (by omega))
        have q1 : i2 = ((i + 1 : Nat) : Int) := by omega
        have q2 : t2 = wp (S 5) (P.take (i + 1)) := by rw [e_t2, take_s hlt, wp_app, e_k1]; simp [wp]
        subst q1; subst q2
        simp [lk]

set_option maxRecDepth 100000 in
set_option maxHeartbeats 4000000 in
theorem m_G_secondOf {l : Launch} {D : va_G} {a : Nat → Nat} {ki kz kl kq : ClassId} {S : Nat → Int → Int}  {W : Int → Int} {P : List Int} {x : Int} (hP : ok5 P) (hW : ∀ k, 0 ≤ W k ∧ W k ≤ 1000) (hx : x = cd W P) (hn : 0 ≤ S 1 0 ∧ S 1 0 ≤ 20) (ha : ∀ k, k ∈ P → k < S 1 0) (h5 : ∀ k, 0 ≤ S 5 k ∧ S 5 k ≤ 1000) : MX l D a ki kz kl kq y_G_secondOf b_G_secondOf 6 (some .int) rm_G_secondOf [.ref (a 1), .long (lI x)] S (pI fun r S' => S' = S ∧ r = wp (S 5) P) := by
  refine MM.go b_G_secondOf 6 (some .int) "NextPaths$Graph" [(0, .ref (a 1)), (1, .long (lI x))] (by decide) rfl rfl (Nat.le_of_ble_eq_true rfl) ?_
  intro p e s m args below meth c C hr hk
  refine g_iconst (z := 0) C d_G_secondOf_0 rfl rfl ?_
  refine g_nm (fun t0 e_t0 => ?_)
  refine g_istore_n (lv' := [(3, .int (iI t0)), (0, .ref (a 1)), (1, .long (lI x))]) C d_G_secondOf_1 (by decide) rfl rfl ?_
  refine g_iconst (z := 0) C d_G_secondOf_2 rfl rfl ?_
  refine g_nm (fun i0 e_i0 => ?_)
  refine g_istore (lv' := [(4, .int (iI i0)), (3, .int (iI t0)), (0, .ref (a 1)), (1, .long (lI x))]) C d_G_secondOf_3 (by decide) rfl rfl ?_
  refine GG.lvs (lv' := [(4, .int (iI ((0 : Nat) : Int))), (3, .int (iI (wp (S 5) (P.take 0)))), (0, .ref (a 1)), (1, .long (lI x))]) ?_ (lo_G_secondOf hP hW hx hn ha h5 C hr hk P.length 0 (by omega) (by omega))
  subst e_t0; subst e_i0
  simp [lk, wp]

/-- P is the path that was told, with its weights -/
def TL (S : Nat → Int → Int) (P : List Int) (w s2 : Int) : Prop := S 31 0 = P.length ∧ S 32 0 = w ∧ S 33 0 = s2 ∧ ∀ i : Nat, i < P.length → S 30 (i : Int) = P.getD i 0

set_option maxRecDepth 100000 in
set_option maxHeartbeats 4000000 in
theorem lo_T_tell {l : Launch} {D : va_G} {a : Nat → Nat} {ki kz kl kq : ClassId} {p : Program} {e : Env} {s : State} {m : MethodId} {args : Array Value} {below : List Frame} {meth : Method} {c : Code} {S0 : Nat → Int → Int} {P : List Int} {x : Int} (hP : ok5 P) (hW : ∀ k, 0 ≤ S0 4 k ∧ S0 4 k ≤ 1000) (hx : x = cd (S0 4) P) (hn : 0 ≤ S0 1 0 ∧ S0 1 0 ≤ 20) (ha : ∀ k, k ∈ P → k < S0 1 0) (h5 : ∀ k, 0 ≤ S0 5 k ∧ S0 5 k ≤ 1000) (C : CX p s m args c b_T_tell 5 "NextPaths$ToldPath" TT D cls (tyz ki kz kl kq)) (hr : meth.sig.returnType = (some .int)) (hk : meth.locks = false) : ∀ (k i : Nat) (S : Nat → Int → Int), i ≤ P.length → P.length ≤ i + k → (eqx [30, 31, 32, 33] S0 S ∧ S 31 0 = P.length ∧ S 32 0 = wp (S0 4) P ∧ S 33 0 = wp (S0 5) P ∧ ∀ j : Nat, j < i → S 30 (j : Int) = P.getD j 0) → GG p l e rm_T_tell s m args below meth c D cls (adr (wX a ki kz kl kq S0)) 5 0 0 (MQ below (QcW D cls (wX a ki kz kl kq) S0 (pI fun r S' => eqx [30, 31, 32, 33] S0 S' ∧ r = P.length ∧ TL S' P (wp (S0 4) P) (wp (S0 5) P))) args s 0 0 (adr (wX a ki kz kl kq S0))) (wX a ki kz kl kq) S [(4, .int (iI (i : Int))), (0, .ref (a 22)), (1, .ref (a 1)), (2, .long (lI x))] 28 [] := by
  intro k
  induction k with
  | zero =>
    intro i S hi hk0 hI
    have h7 := hP.1
    have hxb : 0 ≤ x ∧ x < 2251799813685248 := by rw [hx]; exact cd_bd hW hP
    refine g_iload C d_T_tell_28 rfl rfl ?_
    refine g_aload_n C d_T_tell_30 rfl rfl ?_
    refine g_get C 22 1 i_T wX_22 rfl (by decide) k_T_15 rfl rfl d_T_tell_31 rfl ?_
    refine g_v (z' := (P.length : Int)) hI.2.1 ?_
    refine g_icmp_ge (tgt := 56) C d_T_tell_34 (by decide) rfl (by omega) (by omega) (fun h34 => ?_) (fun h34 => ?_)
    · refine g_aload_n C d_T_tell_56 rfl rfl ?_
      refine g_get C 22 1 i_T wX_22 rfl (by decide) k_T_15 rfl rfl d_T_tell_57 rfl ?_
      refine g_v (z' := (P.length : Int)) hI.2.1 ?_
      refine g_iret C hr hk d_T_tell_60 ⟨_, rfl, ?_⟩
      have hi2 : i = P.length := by omega
      subst hi2
      exact ⟨hI.1, rfl, hI.2.1, hI.2.2.1, hI.2.2.2.1, hI.2.2.2.2⟩
    · exact absurd h34 (by omega)
  | succ k ih =>
    intro i S hi hk0 hI
    have h7 := hP.1
    have hxb : 0 ≤ x ∧ x < 2251799813685248 := by rw [hx]; exact cd_bd hW hP
    refine g_iload C d_T_tell_28 rfl rfl ?_
    refine g_aload_n C d_T_tell_30 rfl rfl ?_
    refine g_get C 22 1 i_T wX_22 rfl (by decide) k_T_15 rfl rfl d_T_tell_31 rfl ?_
    refine g_v (z' := (P.length : Int)) hI.2.1 ?_
    refine g_icmp_ge (tgt := 56) C d_T_tell_34 (by decide) rfl (by omega) (by omega) (fun h34 => ?_) (fun h34 => ?_)
    · refine g_aload_n C d_T_tell_56 rfl rfl ?_
      refine g_get C 22 1 i_T wX_22 rfl (by decide) k_T_15 rfl rfl d_T_tell_57 rfl ?_
      refine g_v (z' := (P.length : Int)) hI.2.1 ?_
      refine g_iret C hr hk d_T_tell_60 ⟨_, rfl, ?_⟩
      have hi2 : i = P.length := by omega
      subst hi2
      exact ⟨hI.1, rfl, hI.2.1, hI.2.2.1, hI.2.2.2.1, hI.2.2.2.2⟩
    · have hlt : i < P.length := by omega
      refine g_aload_n C d_T_tell_37 rfl rfl ?_
      refine g_get C 22 0 i_T wX_22 rfl (by decide) k_T_9 rfl rfl d_T_tell_38 rfl ?_
      refine g_iload C d_T_tell_41 rfl rfl ?_
      refine g_lload_n C d_T_tell_43 rfl rfl ?_
      refine g_iload C d_T_tell_44 rfl rfl ?_
      refine g_runI (wX_fix a ki kz kl kq) rfl (rn_SN C (m_C_arcIn hxb (by omega)) 2 kc_C_arcIn k_T_39 ks_C_arcIn kn_C hy_C_arcIn ⟨rfl, rfl⟩ ⟨by decide, by decide⟩ ⟨Nat.le_refl _, Nat.le_refl _⟩ rfl rfl (Nat.le_of_ble_eq_true rfl) d_T_tell_46) (fun r S1 hp => ?_)
      obtain ⟨hS1, rfl⟩ := hp
      refine GG.at hS1 ?_
      refine g_v (z' := P.getD i 0) (by rw [hx]; exact cd_a hP i hlt) ?_
      refine g_iast C 23 0 wX_23 rfl (by omega) (by omega) (by decide) wX_s23 d_T_tell_49 rfl ?_
      obtain ⟨i2, e_i2⟩ : ∃ z : Int, z = (i : Int) + 1 := ⟨_, rfl⟩
      refine g_iinc (q := 0) (z := i2) (lv' := [(4, .int (iI i2)), (0, .ref (a 22)), (1, .ref (a 1)), (2, .long (lI x))]) C d_T_tell_50 rfl e_i2.symm (by decide) rfl rfl ?_
      refine g_goto (tgt := 28) C d_T_tell_53 (by decide) ?_
      refine GG.lvs (lv' := [(4, .int (iI ((i + 1 : Nat) : Int))), (0, .ref (a 22)), (1, .ref (a 1)), (2, .long (lI x))]) (by rw [show i2 = ((i + 1 : Nat) : Int) by omega]; simp [lk]) (ih (i + 1) _ (by omega) (by omega) ⟨eqx_us hI.1 (by simp), by rw [us_n (by decide)]; exact hI.2.1, by rw [us_n (by decide)]; exact hI.2.2.1, by rw [us_n (by decide)]; exact hI.2.2.2.1, fun j hj => ?_⟩)
      rw [us_s]
      by_cases e : j = i
      · subst e; rw [up_s]
      · rw [up_n (by omega)]; exact hI.2.2.2.2 j (by omega)

set_option maxRecDepth 100000 in
set_option maxHeartbeats 4000000 in
theorem m_T_tell {l : Launch} {D : va_G} {a : Nat → Nat} {ki kz kl kq : ClassId} {S : Nat → Int → Int}  {P : List Int} {x : Int} (hP : ok5 P) (hW : ∀ k, 0 ≤ S 4 k ∧ S 4 k ≤ 1000) (hx : x = cd (S 4) P) (hn : 0 ≤ S 1 0 ∧ S 1 0 ≤ 20) (ha : ∀ k, k ∈ P → k < S 1 0) (h5 : ∀ k, 0 ≤ S 5 k ∧ S 5 k ≤ 1000) : MX l D a ki kz kl kq y_T_tell b_T_tell 5 (some .int) rm_T_tell [.ref (a 22), .ref (a 1), .long (lI x)] S (pI fun r S' => eqx [30, 31, 32, 33] S S' ∧ r = P.length ∧ TL S' P (wp (S 4) P) (wp (S 5) P)) := by
  refine MM.go b_T_tell 5 (some .int) "NextPaths$ToldPath" [(0, .ref (a 22)), (1, .ref (a 1)), (2, .long (lI x))] (by decide) rfl rfl (Nat.le_of_ble_eq_true rfl) ?_
  intro p e s m args below meth c C hr hk
  have hxb : 0 ≤ x ∧ x < 2251799813685248 := by rw [hx]; exact cd_bd hW hP
  refine g_aload_n C d_T_tell_0 rfl rfl ?_
  refine g_lload_n C d_T_tell_1 rfl rfl ?_
  refine g_runI (wX_fix a ki kz kl kq) rfl (rn_SN C (m_C_lengthIn hxb) 1 kc_C_lengthIn k_T_19 ks_C_lengthIn kn_C hy_C_lengthIn ⟨rfl, rfl⟩ ⟨by decide, by decide⟩ ⟨Nat.le_refl _, Nat.le_refl _⟩ rfl rfl (Nat.le_of_ble_eq_true rfl) d_T_tell_2) (fun r S1 hp => ?_)
  obtain ⟨hS1, rfl⟩ := hp
  refine GG.at hS1 ?_
  refine g_v (z' := (P.length : Int)) (by rw [hx]; exact cd_l hP) ?_
  refine g_put (ty := .int) C 22 1 ty_T i_T ty_T_ok n_T wX_22 rfl (by decide) k_T_15 rfl rfl (by decide +kernel) rfl rfl (Nat.le_of_ble_eq_true rfl) wX_p22_1 d_T_tell_5 rfl ?_
  refine g_aload_n C d_T_tell_8 rfl rfl ?_
  refine g_lload_n C d_T_tell_9 rfl rfl ?_
  refine g_runI (wX_fix a ki kz kl kq) rfl (rn_SN C (m_C_weightIn hxb) 1 kc_C_weightIn k_T_25 ks_C_weightIn kn_C hy_C_weightIn ⟨rfl, rfl⟩ ⟨by decide, by decide⟩ ⟨Nat.le_refl _, Nat.le_refl _⟩ rfl rfl (Nat.le_of_ble_eq_true rfl) d_T_tell_10) (fun r S1 hp => ?_)
  obtain ⟨hS1, rfl⟩ := hp
  refine GG.at hS1 ?_
  refine g_v (z' := wp (S 4) P) (by rw [hx]; exact cd_w hP) ?_
  refine g_put (ty := .int) C 22 2 ty_T i_T ty_T_ok n_T wX_22 rfl (by decide) k_T_28 rfl rfl (by decide +kernel) rfl rfl (Nat.le_of_ble_eq_true rfl) wX_p22_2 d_T_tell_13 rfl ?_
  refine g_aload_n C d_T_tell_16 rfl rfl ?_
  refine g_aload_n C d_T_tell_17 rfl rfl ?_
  refine g_lload_n C d_T_tell_18 rfl rfl ?_
  refine g_runI (wX_fix a ki kz kl kq) rfl (rn_VN C (m_G_secondOf (W := S 4) hP hW hx hn ha h5) 1 1 wX_1 rfl rfl kc_G_secondOf k_T_31 ki_G_secondOf kx_G_secondOf kn_G hy_G_secondOf ⟨rfl, rfl⟩ ⟨by decide, by decide⟩ ⟨Nat.le_refl _, Nat.le_refl _⟩ rfl rfl (Nat.le_of_ble_eq_true rfl) d_T_tell_19) (fun r S1 hp => ?_)
  obtain ⟨hS1, rfl⟩ := hp
  refine GG.at hS1 ?_
  refine g_v (z' := wp (S 5) P) rfl ?_
  refine g_put (ty := .int) C 22 3 ty_T i_T ty_T_ok n_T wX_22 rfl (by decide) k_T_36 rfl rfl (by decide +kernel) rfl rfl (Nat.le_of_ble_eq_true rfl) wX_p22_3 d_T_tell_22 rfl ?_
  refine g_iconst (z := 0) C d_T_tell_25 rfl rfl ?_
  refine g_nm (fun i0 e_i0 => ?_)
  refine g_istore (lv' := [(4, .int (iI i0)), (0, .ref (a 22)), (1, .ref (a 1)), (2, .long (lI x))]) C d_T_tell_26 (by decide) rfl rfl ?_
  subst e_i0
  refine lo_T_tell hP hW hx hn ha h5 C hr hk P.length 0 _ (by omega) (by omega) ⟨eqx_us (eqx_us (eqx_us eqx_rf (by simp)) (by simp)) (by simp), rfl, rfl, rfl, fun j hj => by omega⟩

