/-! the class: measure -/
def orz (x r : Int) : Int := if x = 0 then r else 1
theorem orz_ok {x r : Int} (hx : x = 0 ∨ x = 1) (hr : r = 0 ∨ r = 1) : iI x ||| iI r = iI (orz x r) := by
  rcases hx with rfl | rfl <;> rcases hr with rfl | rfl <;> decide +kernel
def msd (S S' : Nat → Int → Int) (E : Nat) (q : Int → Int) : Prop := eqx [25, 26] S S' ∧ ∃ (wk : Int → List Int) (r : Nat) (i t : Int), t ≤ 900 ∧ BF E (S 21) (S 22) (S 23) (S 24) (S 28 0) q (S' 25) (S' 26) wk r i t ∧ ∀ g : Int, 0 ≤ g → g < E → sa (S 21) (S 22) (S 23) (S 24) (S' 25) g
/-- in round r, before edge i -/
def mso (S S' : Nat → Int → Int) (E : Nat) (q : Int → Int) (r : Nat) (i h : Int) : Prop := eqx [25, 26] S S' ∧ (∃ (wk : Int → List Int) (t : Int), t ≤ 56 * ((r : Int) - 1) + i ∧ BF E (S 21) (S 22) (S 23) (S 24) (S 28 0) q (S' 25) (S' 26) wk r i t) ∧ (h = 0 ∨ h = 1) ∧ (h = 0 → ∀ g : Int, 0 ≤ g → g < i → sa (S 21) (S 22) (S 23) (S 24) (S' 25) g)
theorem edS_eq {S S' : Nat → Int → Int} {E : Nat} {q : Int → Int} (h : eqx [25, 26] S S') (hE : edS S E q) : edS S' E q := by
  unfold edS at *
  rw [h 27 (by decide), h 21 (by decide), h 22 (by decide), h 23 (by decide), h 24 (by decide), h 28 (by decide)]
  exact hE
theorem mso_step {S S1 S2 : Nat → Int → Int} {E : Nat} {q : Int → Int} {r : Nat} {i h z : Int} (hE : edS S E q) (hr : r ≤ 16) (i0 : 0 ≤ i) (i1 : i < E) (hI : mso S S1 E q r i h) (hp : (z = 0 ∧ S2 = S1 ∧ saS S1 i) ∨ (z = 1 ∧ ¬ saS S1 i ∧ S2 = us (us S1 25 (S1 22 i) (S1 25 (S1 21 i) + S1 23 i)) 26 (S1 22 i) i)) : mso S S2 E q r (i + 1) (orz h z) := by
  obtain ⟨a1, ⟨wk, t, a2, a3⟩, a4, a5⟩ := hI
  have e21 := a1 21 (by decide)
  have e22 := a1 22 (by decide)
  have e23 := a1 23 (by decide)
  have e24 := a1 24 (by decide)
  have hE56 := hE.2.1.1
  unfold saS at hp
  rw [e21, e22, e23, e24] at hp
  rcases hp with ⟨rfl, rfl, hs⟩ | ⟨rfl, hs, rfl⟩
  · refine ⟨a1, ⟨wk, t + 1, by omega, BF_keep a3 hs⟩, ?_, fun h0 g g0 g1 => ?_⟩
    · unfold orz; split <;> omega
    · by_cases c : g = i
      · subst c; exact hs
      · refine a5 ?_ g g0 (by omega)
        unfold orz at h0
        split at h0 <;> omega
  · refine ⟨eqx_us (eqx_us a1 (by simp)) (by simp), ⟨upw wk (S 22 i) (S 22 i :: wk (S 21 i)), t + 1, by omega, ?_⟩, ?_, fun h0 => ?_⟩
    · have := BF_step hE.2.1 a3 i0 i1 (by omega) hs
      rw [us_n (by decide), us_s, us_s, us_n (by decide)]
      exact this
    · unfold orz; split <;> omega
    · unfold orz at h0; split at h0 <;> omega

set_option maxRecDepth 100000 in
set_option maxHeartbeats 4000000 in
theorem lo_F_in {l : Launch} {D : va_G} {a : Nat → Nat} {ki kz kl kq : ClassId} {p : Program} {e : Env} {s : State} {m : MethodId} {args : Array Value} {below : List Frame} {meth : Method} {c : Code} {S0 : Nat → Int → Int} {E : Nat} {q : Int → Int} (hE : edS S0 E q) {r : Nat} {rd : Int} (hr16 : r ≤ 16) (C : CX p s m args c b_F_measure 4 "NextPaths$Flow" TT D cls (tyz ki kz kl kq)) (hr : meth.sig.returnType = none) (hk : meth.locks = false) : ∀ (k : Nat) (i h : Int) (S : Nat → Int → Int), 0 ≤ i → i ≤ E → E ≤ i.toNat + k → mso S0 S E q r i h → (∀ (h : Int) (S : Nat → Int → Int), mso S0 S E q r E h → GG p l e rm_F_measure s m args below meth c D cls (adr (wX a ki kz kl kq S0)) 4 0 0 (MQ below (QcW D cls (wX a ki kz kl kq) S0 (pV fun S' => msd S0 S' E q)) args s 0 0 (adr (wX a ki kz kl kq S0))) (wX a ki kz kl kq) S [(3, .int (iI (E : Int))), (1, .int (iI h)), (2, .int (iI rd)), (0, .ref (a 27))] 59 []) → GG p l e rm_F_measure s m args below meth c D cls (adr (wX a ki kz kl kq S0)) 4 0 0 (MQ below (QcW D cls (wX a ki kz kl kq) S0 (pV fun S' => msd S0 S' E q)) args s 0 0 (adr (wX a ki kz kl kq S0))) (wX a ki kz kl kq) S [(3, .int (iI i)), (1, .int (iI h)), (2, .int (iI rd)), (0, .ref (a 27))] 37 [] := by
  intro k
  induction k with
  | zero =>
    intro i h S i0 i1 hk0 hI K
    have hE1 := edS_eq hI.1 hE
    have hE56 := hE.2.1.1
    refine g_iload_n C d_F_measure_37 rfl rfl ?_
    refine g_aload_n C d_F_measure_38 rfl rfl ?_
    refine g_get C 27 7 i_F wX_27 rfl (by decide) k_F_34 rfl rfl d_F_measure_39 rfl ?_
    refine g_v (z' := (E : Int)) hE1.1 ?_
    refine g_icmp_ge (tgt := 59) C d_F_measure_42 (by decide) rfl (by omega) (by omega) (fun h42 => ?_) (fun h42 => ?_)
    · have hi : i = E := by omega
      subst hi
      exact K h S hI
    · exact absurd h42 (by omega)
  | succ k ih =>
    intro i h S i0 i1 hk0 hI K
    have hE1 := edS_eq hI.1 hE
    have hE56 := hE.2.1.1
    refine g_iload_n C d_F_measure_37 rfl rfl ?_
    refine g_aload_n C d_F_measure_38 rfl rfl ?_
    refine g_get C 27 7 i_F wX_27 rfl (by decide) k_F_34 rfl rfl d_F_measure_39 rfl ?_
    refine g_v (z' := (E : Int)) hE1.1 ?_
    refine g_icmp_ge (tgt := 59) C d_F_measure_42 (by decide) rfl (by omega) (by omega) (fun h42 => ?_) (fun h42 => ?_)
    · have hi : i = E := by omega
      subst hi
      exact K h S hI
    · obtain ⟨wk, t, ht, hB⟩ := hI.2.1
      have hbd := hB.2.2.2.2.2.1
      have hhh := hI.2.2.1
      refine g_iload_n C d_F_measure_45 rfl rfl ?_
      refine g_aload_n C d_F_measure_46 rfl rfl ?_
      refine g_iload_n C d_F_measure_47 rfl rfl ?_
      refine g_runI (wX_fix a ki kz kl kq) rfl (rn_V C (m_F_tryEdge (t := t) hE1 (by omega) hbd (by omega)) 27 1 wX_27 rfl rfl kc_F_tryEdge k_F_90 ki_F_tryEdge kx_F_tryEdge kn_F hy_F_tryEdge ⟨rfl, rfl⟩ ⟨by decide, by decide⟩ ⟨Nat.le_refl _, Nat.le_refl _⟩ rfl rfl (Nat.le_of_ble_eq_true rfl) d_F_measure_48) (fun z S1 hp => ?_)
      refine g_ior (z := (orz h z)) C d_F_measure_51 (orz_ok hhh (by omega)) rfl ?_
      refine g_nm (fun h2 e_h2 => ?_)
      refine g_istore_n (lv' := [(1, .int (iI h2)), (3, .int (iI i)), (2, .int (iI rd)), (0, .ref (a 27))]) C d_F_measure_52 (by decide) rfl rfl ?_
      obtain ⟨i2, e_i2⟩ : ∃ z : Int, z = i + 1 := ⟨_, rfl⟩
      refine g_iinc (q := 1) (z := i2) (lv' := [(3, .int (iI i2)), (1, .int (iI h2)), (2, .int (iI rd)), (0, .ref (a 27))]) C d_F_measure_53 rfl e_i2.symm (by decide) rfl rfl ?_
      refine g_goto (tgt := 37) C d_F_measure_56 (by decide) ?_
      refine GG.lvs (lv' := [(3, .int (iI i2)), (1, .int (iI h2)), (2, .int (iI rd)), (0, .ref (a 27))]) (by simp [lk]) ?_
      subst e_h2
      subst e_i2
      exact ih _ _ _ (by omega) (by omega) (by omega) (mso_step hE (by omega) (by omega) (by omega) hI hp) K

set_option maxRecDepth 100000 in
set_option maxHeartbeats 4000000 in
theorem lo_F_out {l : Launch} {D : va_G} {a : Nat → Nat} {ki kz kl kq : ClassId} {p : Program} {e : Env} {s : State} {m : MethodId} {args : Array Value} {below : List Frame} {meth : Method} {c : Code} {S0 : Nat → Int → Int} {E : Nat} {q : Int → Int} (hE : edS S0 E q) (C : CX p s m args c b_F_measure 4 "NextPaths$Flow" TT D cls (tyz ki kz kl kq)) (hr : meth.sig.returnType = none) (hk : meth.locks = false) : ∀ (k r : Nat) (h : Int) (S : Nat → Int → Int), r ≤ 16 → 16 ≤ r + k → (eqx [25, 26] S0 S ∧ (∃ (wk : Int → List Int) (t : Int), t ≤ 56 * (r : Int) ∧ BF E (S0 21) (S0 22) (S0 23) (S0 24) (S0 28 0) q (S 25) (S 26) wk (r + 1) 0 t) ∧ (h = 0 ∨ h = 1) ∧ (h = 0 → ∀ g : Int, 0 ≤ g → g < E → sa (S0 21) (S0 22) (S0 23) (S0 24) (S 25) g)) → GG p l e rm_F_measure s m args below meth c D cls (adr (wX a ki kz kl kq S0)) 4 0 0 (MQ below (QcW D cls (wX a ki kz kl kq) S0 (pV fun S' => msd S0 S' E q)) args s 0 0 (adr (wX a ki kz kl kq S0))) (wX a ki kz kl kq) S [(2, .int (iI (r : Int))), (1, .int (iI h)), (0, .ref (a 27))] 23 [] := by
  intro k
  induction k with
  | zero =>
    intro r h S r1 hk0 hI
    have hhh := hI.2.2.1
    refine g_iload_n C d_F_measure_23 rfl rfl ?_
    refine g_bipush (z := 16) C d_F_measure_24 rfl (by decide) ?_
    refine g_icmp_ge (tgt := 65) C d_F_measure_26 (by decide) rfl (by omega) (by omega) (fun h26 => ?_) (fun h26 => ?_)
    · refine g_vret C hr hk d_F_measure_65 ⟨rfl, ?_⟩
      obtain ⟨wk, t, ht, hB⟩ := hI.2.1
      refine ⟨hI.1, wk, r + 1, 0, t, by omega, hB, ?_⟩
      first
        | exact hI.2.2.2 h30
        | (have hr17 : r = 16 := by omega
           subst hr17
           exact BF_16 hE.2.1 hB)
    · exact absurd h26 (by omega)
  | succ k ih =>
    intro r h S r1 hk0 hI
    have hhh := hI.2.2.1
    refine g_iload_n C d_F_measure_23 rfl rfl ?_
    refine g_bipush (z := 16) C d_F_measure_24 rfl (by decide) ?_
    refine g_icmp_ge (tgt := 65) C d_F_measure_26 (by decide) rfl (by omega) (by omega) (fun h26 => ?_) (fun h26 => ?_)
    · refine g_vret C hr hk d_F_measure_65 ⟨rfl, ?_⟩
      obtain ⟨wk, t, ht, hB⟩ := hI.2.1
      refine ⟨hI.1, wk, r + 1, 0, t, by omega, hB, ?_⟩
      first
        | exact hI.2.2.2 h30
        | (have hr17 : r = 16 := by omega
           subst hr17
           exact BF_16 hE.2.1 hB)
    · refine g_iload_n C d_F_measure_29 rfl rfl ?_
      refine g_if_eq (tgt := 65) C d_F_measure_30 (by decide) rfl (by omega) (fun h30 => ?_) (fun h30 => ?_)
      · refine g_vret C hr hk d_F_measure_65 ⟨rfl, ?_⟩
        obtain ⟨wk, t, ht, hB⟩ := hI.2.1
        refine ⟨hI.1, wk, r + 1, 0, t, by omega, hB, ?_⟩
        first
          | exact hI.2.2.2 h30
          | (have hr17 : r = 16 := by omega
             subst hr17
             exact BF_16 hE.2.1 hB)
      · refine g_iconst (z := 0) C d_F_measure_33 rfl rfl ?_
        refine g_nm (fun h0 e_h0 => ?_)
        refine g_istore_n (lv' := [(1, .int (iI h0)), (2, .int (iI (r : Int))), (0, .ref (a 27))]) C d_F_measure_34 (by decide) rfl rfl ?_
        refine g_iconst (z := 0) C d_F_measure_35 rfl rfl ?_
        refine g_nm (fun i0 e_i0 => ?_)
        refine g_istore_n (lv' := [(3, .int (iI i0)), (1, .int (iI h0)), (2, .int (iI (r : Int))), (0, .ref (a 27))]) C d_F_measure_36 (by decide) rfl rfl ?_
        subst e_h0
        subst e_i0
        refine lo_F_in hE (r := r + 1) (rd := (r : Int)) (by omega) C hr hk E 0 0 S (by omega) (by omega) (by omega) ⟨hI.1, (by obtain ⟨wk, t, c1, c2⟩ := hI.2.1; exact ⟨wk, t, by omega, c2⟩), Or.inl rfl, fun _ g g0 g1 => by omega⟩ (fun h S hI2 => ?_)
        obtain ⟨r2, e_r2⟩ : ∃ z : Int, z = (r : Int) + 1 := ⟨_, rfl⟩
        refine g_iinc (q := 2) (z := r2) (lv' := [(2, .int (iI r2)), (3, .int (iI (E : Int))), (1, .int (iI h)), (0, .ref (a 27))]) C d_F_measure_59 rfl e_r2.symm (by decide) rfl rfl ?_
        refine g_goto (tgt := 23) C d_F_measure_62 (by decide) ?_
        refine GG.lvs (lv' := [(2, .int (iI ((r + 1 : Nat) : Int))), (1, .int (iI h)), (0, .ref (a 27))]) (by rw [show r2 = ((r + 1 : Nat) : Int) by omega]; simp [lk]) ?_
        obtain ⟨b1, ⟨wk, t, b2, b3⟩, b4, b5⟩ := hI2
        exact ih (r + 1) h S (by omega) (by omega) ⟨b1, ⟨wk, t, by have := hE.2.1.1; omega, BF_round b3⟩, b4, b5⟩

set_option maxRecDepth 100000 in
set_option maxHeartbeats 4000000 in
theorem m_F_measure {l : Launch} {D : va_G} {a : Nat → Nat} {ki kz kl kq : ClassId} {S : Nat → Int → Int}  {E : Nat} {q : Int → Int} (hE : edS S E q) : MX l D a ki kz kl kq y_F_measure b_F_measure 4 none rm_F_measure [.ref (a 27)] S (pV fun S' => msd S S' E q) := by
  refine MM.go b_F_measure 4 none "NextPaths$Flow" [(0, .ref (a 27))] (by decide) rfl rfl (Nat.le_of_ble_eq_true rfl) ?_
  intro p e s m args below meth c C hr hk
  refine g_aload_n C d_F_measure_0 rfl rfl ?_
  refine g_get C 27 5 i_F wX_27 rfl (by decide) k_F_24 rfl rfl d_F_measure_1 rfl ?_
  refine g_ldc (z := 1000000) C k_F_83 d_F_measure_4 rfl ?_
  refine g_run0 (w := wX a ki kz kl kq) (q1 := a 32) (g := fun f => .inl (ki, 16, .inl (ia f))) (y := S 25) (nx := fun f i => if i = 25 then f else S i) 32 rfl (fun _ _ => rfl) (fun _ _ h => h.1) rfl (rn_S C (m_J_fill (q := a 32) (N := 16) (by decide)) 2 kc_J_fill k_F_84 ks_J_fill kn_J hy_J_fill ⟨rfl, rfl⟩ ⟨by decide, by decide⟩ ⟨Nat.le_refl _, Nat.le_refl _⟩ rfl rfl (Nat.le_of_ble_eq_true rfl) d_F_measure_6) (fun y hy => ?_)
  obtain ⟨-, hy⟩ := hy
  have hs16 := hE.2.2.1
  refine g_aload_n C d_F_measure_9 rfl rfl ?_
  refine g_get C 27 5 i_F wX_27 rfl (by decide) k_F_24 rfl rfl d_F_measure_10 rfl ?_
  refine g_aload_n C d_F_measure_13 rfl rfl ?_
  refine g_get C 27 8 i_F wX_27 rfl (by decide) k_F_42 rfl rfl d_F_measure_14 rfl ?_
  refine g_v (z' := S 28 0) rfl ?_
  refine g_iconst (z := 0) C d_F_measure_17 rfl rfl ?_
  refine g_iast C 32 0 wX_32 rfl (by omega) (by omega) (by decide) wX_s32 d_F_measure_18 rfl ?_
  refine g_iconst (z := 1) C d_F_measure_19 rfl rfl ?_
  refine g_nm (fun h0 e_h0 => ?_)
  refine g_istore_n (lv' := [(1, .int (iI h0)), (0, .ref (a 27))]) C d_F_measure_20 (by decide) rfl rfl ?_
  refine g_iconst (z := 0) C d_F_measure_21 rfl rfl ?_
  refine g_nm (fun r0 e_r0 => ?_)
  refine g_istore_n (lv' := [(2, .int (iI r0)), (1, .int (iI h0)), (0, .ref (a 27))]) C d_F_measure_22 (by decide) rfl rfl ?_
  subst e_h0
  subst e_r0
  refine lo_F_out hE C hr hk 16 0 1 _ (by omega) (by omega) ⟨fun k hk => ?_, ⟨fun v => [v], 0, by omega, BF_0 hs16.1 hs16.2 (fun v v0 v1 => ?_)⟩, Or.inr rfl, fun h => by omega⟩
  · simp only [List.mem_cons, List.not_mem_nil, or_false, not_or] at hk
    rw [us_n hk.1]
    show (if k = 25 then y else S k) = S k
    rw [if_neg hk.1]
  · rw [us_s]
    by_cases e : v = S 28 0
    · rw [e, up_s, if_pos rfl]
    · rw [up_n e, if_neg e]
      show y v = far
      rw [hy]
      show (if 0 ≤ v ∧ v < ((16 : Nat) : Int) then (1000000 : Int) else S 25 v) = far
      rw [if_pos (by omega)]
      rfl

