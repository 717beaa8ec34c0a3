/-! the class: one path more -/
theorem gf_less {n N : Nat} {F T Sh W x y u z : Int → Int} {a b kp : Int} (hab : a ≠ b) (hW : ∀ k, 0 ≤ W k) (hT : ∀ k : Int, 0 ≤ k → k < n → 0 ≤ T k ∧ T k < N) (h : GF n N F T x y a b (kp + 1)) (hk : 0 ≤ kp) (hx : bn n x u) (hy : bn N y z) (hS : ∀ k : Int, 0 ≤ k → k < n → 0 < x k → Sh k = 0) (hya : y a = 0) :
    ∃ x' y' : Int → Int, GF n N F T x' y' a b kp ∧ bn n x' u ∧ bn N y' z ∧ sm (fun k => x' k * W k) n ≤ sm (fun k => x k * W k) n := by
  obtain ⟨P, hP, hPx, hPy⟩ := gf_path h (by omega) hab (fun k k0 k1 => (hx k k0 k1).1) (fun v v0 v1 => (hy v v0 v1).1) hS hya
  have hPn := vq_nodup P a [] hP
  have hPa := vq_arcs P a [] hP
  obtain ⟨i1, i2, i3⟩ := vq_inn P a [] hP
  have hne : P ≠ [] := fun e => by subst e; exact hab hP
  have hin : ∀ c, c ∈ inn T P → 0 ≤ c ∧ c < (N : Int) := fun c hc => by
    obtain ⟨k, h1, h2⟩ := inn_mem P c hc
    rw [← h2]; exact hT k (hPa k h1).1 (hPa k h1).2
  have c1 : ∀ k, (P.count k : Nat) ≤ 1 := fun k => List.nodup_iff_count.mp hPn k
  have c2 : ∀ k, ((inn T P).count k : Nat) ≤ 1 := fun k => List.nodup_iff_count.mp i1 k
  refine ⟨fun k => x k - (P.count k : Nat), fun v => y v - ((inn T P).count v : Nat), ?_, fun k k0 k1 => ?_, fun k k0 k1 => ?_, ?_⟩
  · intro q
    have e0 := h q
    have e1 := vq_tele q P a [] hP hne
    have s1 : sm (fun k => (x k - (P.count k : Nat)) * (q (2 * F k + 1) - q (2 * T k))) n = sm (fun k => x k * (q (2 * F k + 1) - q (2 * T k))) n - sm (fun k => (P.count k : Nat) * (q (2 * F k + 1) - q (2 * T k))) n := by
      rw [← sm_sub]; exact sm_congr n (fun k _ _ => Int.sub_mul _ _ _)
    have s2 : sm (fun v => (y v - ((inn T P).count v : Nat)) * (q (2 * v) - q (2 * v + 1))) N = sm (fun v => y v * (q (2 * v) - q (2 * v + 1))) N - sm (fun v => ((inn T P).count v : Nat) * (q (2 * v) - q (2 * v + 1))) N := by
      rw [← sm_sub]; exact sm_congr N (fun k _ _ => Int.sub_mul _ _ _)
    rw [s1, s2, sm_cnt (g := fun k => q (2 * F k + 1) - q (2 * T k)) n P hPa, sm_cnt (g := fun c => q (2 * c) - q (2 * c + 1)) N (inn T P) hin]
    rw [Int.add_mul, Int.one_mul] at e0
    omega
  · have q := hx k k0 k1
    show 0 ≤ x k - (P.count k : Nat) ∧ x k - (P.count k : Nat) ≤ u k
    refine ⟨?_, by omega⟩
    by_cases hk : k ∈ P
    · have := hPx k hk; have := c1 k; omega
    · have : P.count k = 0 := List.count_eq_zero.mpr hk
      omega
  · have q := hy k k0 k1
    show 0 ≤ y k - ((inn T P).count k : Nat) ∧ y k - ((inn T P).count k : Nat) ≤ z k
    refine ⟨?_, by omega⟩
    by_cases hk : k ∈ inn T P
    · have := hPy k hk; have := c2 k; omega
    · have : (inn T P).count k = 0 := List.count_eq_zero.mpr hk
      omega
  · refine sm_le n (fun k _ _ => ?_)
    show (x k - (P.count k : Nat)) * W k ≤ x k * W k
    exact Int.mul_le_mul_of_nonneg_right (by omega) (hW k)
abbrev Mz (S : Nat → Int → Int) (u b : Int) : Nat := oa (S 6) (S 1 0).toNat + nv u b (S 0 0).toNat
abbrev FIz (S : Nat → Int → Int) (u b c : Int) (er : Int → Int) (kp tot : Int) : Prop := FI (S 1 0).toNat (S 0 0).toNat (S 2) (S 3) (S 4) (S 6) u b c (S 21) (S 22) (S 23) er kp tot
/-- the flow that the arrays hold: kp paths, tot together -/
def FJ (S : Nat → Int → Int) (u b c kp tot : Int) : Prop := FIz S u b c (S 24) kp tot ∧ S 27 0 = (2 * Mz S u b : Nat) ∧ S 28 0 = 2 * u + 1 ∧ S 29 0 = 2 * b ∧ ∀ j : Int, 0 ≤ j → j < Mz S u b → S 24 (2 * j) + S 24 (2 * j + 1) ≤ 20
theorem FJ_ed {S : Nat → Int → Int} {u b c kp tot : Int} (h : FJ S u b c kp tot) (hu : 0 ≤ u ∧ u < 8) : ∃ q, edS S (2 * Mz S u b) q := by
  obtain ⟨⟨f1, f2, f3, f4, f5, q, f6⟩, h2, h3, h4, h5⟩ := h
  refine ⟨q, h2, f6, by omega, fun g g0 g1 => ?_⟩
  unfold Mz at g1 h5
  have k1 := f2 g g0 g1
  have hb := h5 (g / 2) (by omega) (by omega)
  have k2 := f2 (2 * (g / 2)) (by omega) (by omega)
  have k3 := f2 (2 * (g / 2) + 1) (by omega) (by omega)
  rcases (show g = 2 * (g / 2) ∨ g = 2 * (g / 2) + 1 by omega) with e | e
  · rw [← e] at hb k3; omega
  · rw [← e] at hb; omega
/-- no way is left: a cut -/
theorem FJ_cut {S S' : Nat → Int → Int} {u b c kp tot : Int} {q : Int → Int} (h : FJ S u b c kp tot) (hm : msd S S' (2 * Mz S u b) q) (hE : ed (2 * Mz S u b) (S 21) (S 22) (S 23) (S 24) q) (hg : S' 25 (2 * b) = far) : ∃ R : Int → Bool, shutR (S 1 0).toNat (S 0 0).toNat (S 2) (S 3) (fx (S 6) (S 24)) (fy (S 1 0).toNat (S 6) u b (S 24)) (ua (S 6)) (zn u b c) R ∧ R (2 * u + 1) = true ∧ R (2 * b) = false := by
  obtain ⟨m1, wk, r, i, t, m2, m3, m4⟩ := hm
  obtain ⟨⟨f1, f2, f3, f4, f5, f6⟩, h2, h3, h4, h5⟩ := h
  refine ⟨fun v => decide (S' 25 v ≠ far), ne_shut f1 f2 f3 (fun g g0 g1 hr hR => ?_), ?_, by simp [hg]⟩
  · have hR' : S' 25 (S 21 g) ≠ far := by simpa using hR
    have hb := m3.2.2.2.2.2.1 (S 21 g) (hE.2.1 g g0 g1).1 (hE.2.1 g g0 g1).2.1
    have hc := (hE.2.1 g g0 g1).2.2.2.2.2
    have hb' := hb.resolve_left hR'
    have hs : S' 25 (S 22 g) ≠ far := by
      rcases m4 g g0 g1 with z | z | z
      · omega
      · exact absurd z hR'
      · unfold far; omega
    simp [hs]
  · have : S' 25 (S 28 0) = 0 := m3.2.2.2.1
    rw [h3] at this
    simp [this, far]
/-- one path more is a flow again, and costs no less -/
theorem FJ_more {S S1 S2 : Nat → Int → Int} {u b c kp tot : Int} {q : Int → Int} (hG : GIs S) (hu : 0 ≤ u ∧ u < S 0 0) (hb : 0 ≤ b ∧ b < S 0 0) (hub : u ≠ b) (hk0 : 0 ≤ kp) (h : FJ S u b c kp tot) (hE : ed (2 * Mz S u b) (S 21) (S 22) (S 23) (S 24) q) (wk : Int → List Int) (r : Nat) (i t : Int) (ht : t ≤ 900) (hB : BF (2 * Mz S u b) (S 21) (S 22) (S 23) (S 24) (S 28 0) q (S1 25) (S1 26) wk r i t) (hs : ∀ g : Int, 0 ≤ g → g < (2 * Mz S u b : Nat) → sa (S 21) (S 22) (S 23) (S 24) (S1 25) g)
    (he : eqx [24, 25, 26] S S2) (hA : AU (Mz S u b) (S 21) (S 22) (S 23) (S 24) (S2 24) (S1 25) (S1 26) wk (S 28 0) (2 * b) (S 28 0)) : 0 ≤ S1 25 (2 * b) ∧ FJ S2 u b c (kp + 1) (tot + S1 25 (2 * b)) := by
  obtain ⟨⟨f1, f2, f3, f4, f5, f6⟩, h2, h3, h4, h5⟩ := h
  obtain ⟨q', hq'⟩ := AU_end hE ht hB hs hA
  have hds : S1 25 (S 28 0) = 0 := hB.2.2.2.1
  obtain ⟨b0, b1, b2, b3, b4, b5, b6, b7, b8⟩ := hA
  have hca : CA (S 1 0).toNat (S 0 0).toNat (S 6) u b c (S2 24) := by
    refine ⟨fun k k0 k1 so => ?_, fun v v0 v1 va vb => ?_⟩
    · rw [b6 _ (by omega) (ja_in (a := u) (b := b) k0 k1 so)]; exact f3.1 k k0 k1 so
    · rw [b6 _ (by omega) (jn_in v0 v1 va vb)]; exact f3.2 v v0 v1 va vb
  have hgs : ∀ q : Int → Int, gs (Mz S u b) (S2 24) (fun e => q (S 21 e) - q (S 22 e)) = (kp + 1) * (q (2 * u + 1) - q (2 * b)) := fun q => by
    rw [b3 q, f4 q, h3, Int.add_mul, Int.one_mul]
  have hcs : gs (Mz S u b) (S2 24) (S 23) = tot + S1 25 (2 * b) := by rw [b4, f5]; omega
  have hFI : FIz S u b c (S2 24) (kp + 1) (tot + S1 25 (2 * b)) := ⟨f1, b5, hca, hgs, hcs, q', hq'⟩
  refine ⟨?_, ?_⟩
  · have hT : ∀ k : Int, 0 ≤ k → k < (S 1 0).toNat → 0 ≤ S 3 k ∧ S 3 k < (S 0 0).toNat := fun k k0 k1 => ⟨(hG.2.2.1.2.2.1 k).2.2.1, (hG.2.2.1.2.2.2 k k0 k1).2.1⟩
    have hW : ∀ k, 0 ≤ S 4 k := fun k => (hG.2.2.1.2.2.1 k).2.2.2.2.1
    obtain ⟨x', y', l1, l2, l3, l4⟩ := gf_less (Sh := S 6) (W := S 4) hub hW hT (ne_gf f1 hgs) hk0 (ne_bx b5 hca) (ne_by b5 hca) (fun k k0 k1 hk => by
      refine Classical.byContradiction (fun z => ?_)
      unfold fx at hk; rw [if_neg z] at hk; omega) (by unfold fy; rw [if_pos (Or.inl rfl)])
    obtain ⟨p0, hp0⟩ := f6
    have hop := gf_opt (ne_po f1 f3 hp0.2.2) (ne_gf f1 f4) l1 l2 l3
    rw [ne_cs f1] at f5 hcs
    omega
  · have g : ∀ k, k ≠ 24 → k ≠ 25 → k ≠ 26 → S2 k = S k := fun k x1 x2 x3 => he k (by simp [x1, x2, x3])
    unfold FJ FIz Mz
    rw [g 0 (by decide) (by decide) (by decide), g 1 (by decide) (by decide) (by decide), g 2 (by decide) (by decide) (by decide), g 3 (by decide) (by decide) (by decide), g 4 (by decide) (by decide) (by decide), g 6 (by decide) (by decide) (by decide), g 21 (by decide) (by decide) (by decide), g 22 (by decide) (by decide) (by decide), g 23 (by decide) (by decide) (by decide), g 27 (by decide) (by decide) (by decide), g 28 (by decide) (by decide) (by decide), g 29 (by decide) (by decide) (by decide)]
    exact ⟨hFI, h2, h3, h4, fun j j0 j1 => by rw [b6 j j0 j1]; exact h5 j j0 j1⟩
theorem xor1_ok {g : Int} (h0 : 0 ≤ g) (h1 : g < 1000) : iI g ^^^ iI 1 = iI (pt g) := by
  obtain ⟨k, rfl⟩ := Int.eq_ofNat_of_zero_le h0
  have key : ∀ k : Nat, k < 1000 → nI k ^^^ nI 1 = nI (if k % 2 = 0 then k + 1 else k - 1) := by decide +kernel
  rw [iI_nI, show iI 1 = nI 1 from rfl, key k (by omega), ← iI_nI]
  congr 1
  unfold pt
  by_cases c : k % 2 = 0
  · rw [if_pos c, if_pos (by omega)]; omega
  · rw [if_neg c, if_neg (by omega)]; omega

set_option maxRecDepth 100000 in
set_option maxHeartbeats 4000000 in
theorem lo_F_addPath {l : Launch} {D : va_G} {a : Nat → Nat} {ki kz kl kq : ClassId} {p : Program} {e : Env} {s : State} {m : MethodId} {args : Array Value} {below : List Frame} {meth : Method} {c : Code} {S0 : Nat → Int → Int} {u b c0 kp tot : Int} (hG : GIs S0) (hu : 0 ≤ u ∧ u < S0 0 0) (hb : 0 ≤ b ∧ b < S0 0 0) (hub : u ≠ b) (hk0 : 0 ≤ kp) (hJ : FJ S0 u b c0 kp tot) {q : Int → Int} {S1 : Nat → Int → Int} {wk : Int → List Int} {r : Nat} {i0 t : Int} (hE : ed (2 * Mz S0 u b) (S0 21) (S0 22) (S0 23) (S0 24) q) (ht : t ≤ 900) (hB : BF (2 * Mz S0 u b) (S0 21) (S0 22) (S0 23) (S0 24) (S0 28 0) q (S1 25) (S1 26) wk r i0 t) (hs : ∀ g : Int, 0 ≤ g → g < (2 * Mz S0 u b : Nat) → sa (S0 21) (S0 22) (S0 23) (S0 24) (S1 25) g) (h1 : eqx [25, 26] S0 S1) (hfar : S1 25 (2 * b) ≠ far) (C : CX p s m args c b_F_addPath 4 "NextPaths$Flow" TT D cls (tyz ki kz kl kq)) (hr : meth.sig.returnType = (some .int)) (hk : meth.locks = false) : ∀ (k i : Nat) (z : Int) (S : Nat → Int → Int), (wk z).length ≤ k → (wk z).length + i ≤ 16 → eqx [24] S1 S → AU (Mz S0 u b) (S0 21) (S0 22) (S0 23) (S0 24) (S 24) (S1 25) (S1 26) wk (S0 28 0) (2 * b) z → GG p l e rm_F_addPath s m args below meth c D cls (adr (wX a ki kz kl kq S0)) 4 0 0 (MQ below (QcW D cls (wX a ki kz kl kq) S0 (pI fun r S' => eqx [24, 25, 26] S0 S' ∧ ((r = -1 ∧ S' 24 = S0 24 ∧ ∃ R : Int → Bool, shutR (S0 1 0).toNat (S0 0 0).toNat (S0 2) (S0 3) (fx (S0 6) (S0 24)) (fy (S0 1 0).toNat (S0 6) u b (S0 24)) (ua (S0 6)) (zn u b c0) R ∧ R (2 * u + 1) = true ∧ R (2 * b) = false) ∨ ((0 ≤ r ∧ r < 1000000) ∧ FJ S' u b c0 (kp + 1) (tot + r))))) args s 0 0 (adr (wX a ki kz kl kq S0))) (wX a ki kz kl kq) S [(2, .int (iI (i : Int))), (1, .int (iI z)), (0, .ref (a 27))] 27 [] := by
  intro k
  induction k with
  | zero =>
    intro i z S hk1 hlk hS hA
    exfalso
    have := (hB.2.2.2.2.2.2.1 z hA.1 hA.2.1 hA.2.2.1).2.1
    have := List.length_pos_of_mem this
    omega
  | succ k ih =>
    intro i z S hk1 hlk hS hA
    have hz16 : 0 ≤ z ∧ z < 16 := ⟨hA.1, hA.2.1⟩
    have hlen : 1 ≤ (wk z).length := by
      have := (hB.2.2.2.2.2.2.1 z hA.1 hA.2.1 hA.2.2.1).2.1
      exact List.length_pos_of_mem this
    have e28 : S 28 0 = S0 28 0 := by rw [hS 28 (by decide), h1 28 (by decide)]
    have e29 : S 29 0 = 2 * b := by rw [hS 29 (by decide), h1 29 (by decide)]; exact hJ.2.2.2.1
    have hs28 := hJ.2.2.1
    have hn8 := hG.1
    have hE56 := hE.1
    refine g_iload_n C d_F_addPath_27 rfl rfl ?_
    refine g_bipush (z := 16) C d_F_addPath_28 rfl (by decide) ?_
    refine g_icmp_ge (tgt := 83) C d_F_addPath_30 (by decide) rfl (by omega) (by omega) (fun h30 => ?_) (fun h30 => ?_)
    · exact absurd h30 (by omega)
    · refine g_iload_n C d_F_addPath_33 rfl rfl ?_
      refine g_aload_n C d_F_addPath_34 rfl rfl ?_
      refine g_get C 27 8 i_F wX_27 rfl (by decide) k_F_42 rfl rfl d_F_addPath_35 rfl ?_
      refine g_v (z' := (S0 28 0)) e28 ?_
      refine g_icmp_eq (tgt := 83) C d_F_addPath_38 (by decide) rfl (by omega) (by omega) (fun h38 => ?_) (fun h38 => ?_)
      · refine g_aload_n C d_F_addPath_83 rfl rfl ?_
        refine g_get C 27 5 i_F wX_27 rfl (by decide) k_F_24 rfl rfl d_F_addPath_84 rfl ?_
        refine g_aload_n C d_F_addPath_87 rfl rfl ?_
        refine g_get C 27 9 i_F wX_27 rfl (by decide) k_F_48 rfl rfl d_F_addPath_88 rfl ?_
        refine g_v (z' := (2 * b)) e29 ?_
        refine g_iald C 32 0 wX_32 rfl (by omega) (by omega) (by decide) d_F_addPath_91 rfl ?_
        refine g_v (z' := (S1 25 (2 * b))) (by rw [hS 25 (by decide)]) ?_
        refine g_iret C hr hk d_F_addPath_92 ⟨_, rfl, ?_⟩
        have hze : z = S0 28 0 := h38
        subst hze
        have he : eqx [24, 25, 26] S0 S := fun k hk => by
          simp only [List.mem_cons, List.not_mem_nil, or_false, not_or] at hk
          rw [hS k (by simp [hk.1]), h1 k (by simp [hk.2.1, hk.2.2])]
        have hm := FJ_more hG hu hb hub hk0 hJ hE wk r i0 t ht hB hs he hA
        have hbd := (hB.2.2.2.2.2.1 (2 * b) (by omega) (by omega)).resolve_left hfar
        exact ⟨he, Or.inr ⟨⟨hm.1, by omega⟩, hm.2⟩⟩
      · obtain ⟨hA2, hw2, hg0, hg1⟩ := AU_step hE hJ.1.1.2.2 hB hs hA h38
        have e26 : S 26 z = S1 26 z := by rw [hS 26 (by decide)]
        refine g_aload_n C d_F_addPath_41 rfl rfl ?_
        refine g_get C 27 6 i_F wX_27 rfl (by decide) k_F_27 rfl rfl d_F_addPath_42 rfl ?_
        refine g_iload_n C d_F_addPath_45 rfl rfl ?_
        refine g_iald C 33 0 wX_33 rfl (by omega) (by omega) (by decide) d_F_addPath_46 rfl ?_
        refine g_v (z' := (S1 26 z)) e26 ?_
        refine g_nm (fun g1 e_g1 => ?_)
        refine g_istore_n (lv' := [(3, .int (iI g1)), (2, .int (iI (i : Int))), (1, .int (iI z)), (0, .ref (a 27))]) C d_F_addPath_47 (by decide) rfl rfl ?_
        have hg : 0 ≤ g1 ∧ g1 < (2 * Mz S0 u b : Nat) := by omega
        obtain ⟨p0, p1, p2, p3⟩ := pt_in hg.1 hg.2
        have hro := hA.2.2.2.2.2.1
        have hr1 := hro g1 hg.1 hg.2
        have hr2 := hro (pt g1) p0 p1
        refine g_aload_n C d_F_addPath_48 rfl rfl ?_
        refine g_get C 27 4 i_F wX_27 rfl (by decide) k_F_21 rfl rfl d_F_addPath_49 rfl ?_
        refine g_iload_n C d_F_addPath_52 rfl rfl ?_
        refine g_dup2 C d_F_addPath_53 rfl rfl rfl ?_
        refine g_iald C 31 0 wX_31 rfl (by omega) (by omega) (by decide) d_F_addPath_54 rfl ?_
        refine g_iconst (z := 1) C d_F_addPath_55 rfl rfl ?_
        refine g_isub C d_F_addPath_56 rfl rfl ?_
        refine g_iast C 31 0 wX_31 rfl (by omega) (by omega) (by decide) wX_s31 d_F_addPath_57 rfl ?_
        refine g_aload_n C d_F_addPath_58 rfl rfl ?_
        refine g_get C 27 4 i_F wX_27 rfl (by decide) k_F_21 rfl rfl d_F_addPath_59 rfl ?_
        refine g_iload_n C d_F_addPath_62 rfl rfl ?_
        refine g_iconst (z := 1) C d_F_addPath_63 rfl rfl ?_
        refine g_ixor (z := (pt g1)) C d_F_addPath_64 (xor1_ok (by omega) (by omega)) rfl ?_
        refine g_dup2 C d_F_addPath_65 rfl rfl rfl ?_
        refine g_iald C 31 0 wX_31 rfl (by omega) (by omega) (by decide) d_F_addPath_66 rfl ?_
        refine g_v (z' := (S 24 (pt g1))) (by rw [us_s, up_n p2]) ?_
        refine g_iconst (z := 1) C d_F_addPath_67 rfl rfl ?_
        refine g_iadd C d_F_addPath_68 rfl rfl ?_
        refine g_iast C 31 0 wX_31 rfl (by omega) (by omega) (by decide) wX_s31 d_F_addPath_69 rfl ?_
        refine g_aload_n C d_F_addPath_70 rfl rfl ?_
        refine g_get C 27 1 i_F wX_27 rfl (by decide) k_F_11 rfl rfl d_F_addPath_71 rfl ?_
        refine g_iload_n C d_F_addPath_74 rfl rfl ?_
        refine g_iald C 28 0 wX_28 rfl (by omega) (by omega) (by decide) d_F_addPath_75 rfl ?_
        refine g_v (z' := (S0 21 g1)) (by rw [us_n (by decide), us_n (by decide), hS 21 (by decide), h1 21 (by decide)]) ?_
        refine g_nm (fun z2 e_z2 => ?_)
        refine g_istore_n (lv' := [(1, .int (iI z2)), (3, .int (iI g1)), (2, .int (iI (i : Int))), (0, .ref (a 27))]) C d_F_addPath_76 (by decide) rfl rfl ?_
        obtain ⟨i2, e_i2⟩ : ∃ z : Int, z = (i : Int) + 1 := ⟨_, rfl⟩
        refine g_iinc (q := 2) (z := i2) (lv' := [(2, .int (iI i2)), (1, .int (iI z2)), (3, .int (iI g1)), (0, .ref (a 27))]) C d_F_addPath_77 rfl e_i2.symm (by decide) rfl rfl ?_
        refine g_goto (tgt := 27) C d_F_addPath_80 (by decide) ?_
        refine GG.lvs (lv' := [(2, .int (iI ((i + 1 : Nat) : Int))), (1, .int (iI z2)), (0, .ref (a 27))]) (by rw [show i2 = ((i + 1 : Nat) : Int) by omega]; simp [lk]) ?_
        subst e_z2
        subst e_g1
        refine ih (i + 1) _ _ (by omega) (by omega) ?_ ?_
        · exact eqx_us (eqx_us hS (by simp)) (by simp)
        · have e24 : us (us S 24 (S1 26 z) (S 24 (S1 26 z) - 1)) 24 (pt (S1 26 z)) (S 24 (pt (S1 26 z)) + 1) 24 = ps (S 24) (S1 26 z) := by rw [us_s, us_s]; rfl
          rw [e24]
          exact hA2

set_option maxRecDepth 100000 in
set_option maxHeartbeats 4000000 in
theorem m_F_addPath {l : Launch} {D : va_G} {a : Nat → Nat} {ki kz kl kq : ClassId} {S : Nat → Int → Int}  {u b c0 kp tot : Int} (hG : GIs S) (hu : 0 ≤ u ∧ u < S 0 0) (hb : 0 ≤ b ∧ b < S 0 0) (hub : u ≠ b) (hk0 : 0 ≤ kp) (hJ : FJ S u b c0 kp tot) : MX l D a ki kz kl kq y_F_addPath b_F_addPath 4 (some .int) rm_F_addPath [.ref (a 27)] S (pI fun r S' => eqx [24, 25, 26] S S' ∧ ((r = -1 ∧ S' 24 = S 24 ∧ ∃ R : Int → Bool, shutR (S 1 0).toNat (S 0 0).toNat (S 2) (S 3) (fx (S 6) (S 24)) (fy (S 1 0).toNat (S 6) u b (S 24)) (ua (S 6)) (zn u b c0) R ∧ R (2 * u + 1) = true ∧ R (2 * b) = false) ∨ ((0 ≤ r ∧ r < 1000000) ∧ FJ S' u b c0 (kp + 1) (tot + r)))) := by
  refine MM.go b_F_addPath 4 (some .int) "NextPaths$Flow" [(0, .ref (a 27))] (by decide) rfl rfl (Nat.le_of_ble_eq_true rfl) ?_
  intro p e s m args below meth c C hr hk
  obtain ⟨q, hE⟩ := FJ_ed hJ (by have := hG.1; omega)
  have hn8 := hG.1
  refine g_aload_n C d_F_addPath_0 rfl rfl ?_
  refine g_runV (wX_fix a ki kz kl kq) rfl (rn_V C (m_F_measure hE) 27 0 wX_27 rfl rfl kc_F_measure k_F_80 ki_F_measure kx_F_measure kn_F hy_F_measure ⟨rfl, rfl⟩ ⟨by decide, by decide⟩ ⟨Nat.le_refl _, Nat.le_refl _⟩ rfl rfl (Nat.le_of_ble_eq_true rfl) d_F_addPath_1) (fun S1 hm => ?_)
  have hm0 := hm
  obtain ⟨m1, wk, r, i, t, m2, m3, m4⟩ := hm
  have e29 : S1 29 0 = 2 * b := by rw [m1 29 (by decide)]; exact hJ.2.2.2.1
  have hbd := m3.2.2.2.2.2.1 (2 * b) (by omega) (by omega)
  refine g_aload_n C d_F_addPath_4 rfl rfl ?_
  refine g_get C 27 5 i_F wX_27 rfl (by decide) k_F_24 rfl rfl d_F_addPath_5 rfl ?_
  refine g_aload_n C d_F_addPath_8 rfl rfl ?_
  refine g_get C 27 9 i_F wX_27 rfl (by decide) k_F_48 rfl rfl d_F_addPath_9 rfl ?_
  refine g_v (z' := (2 * b)) e29 ?_
  refine g_iald C 32 0 wX_32 rfl (by omega) (by omega) (by decide) d_F_addPath_12 rfl ?_
  refine g_ldc (z := 1000000) C k_F_83 d_F_addPath_13 rfl ?_
  refine g_icmp_lt (tgt := 20) C d_F_addPath_15 (by decide) rfl (by unfold far at hbd; omega) (by omega) (fun h15 => ?_) (fun h15 => ?_)
  · refine g_aload_n C d_F_addPath_20 rfl rfl ?_
    refine g_get C 27 9 i_F wX_27 rfl (by decide) k_F_48 rfl rfl d_F_addPath_21 rfl ?_
    refine g_v (z' := (2 * b)) e29 ?_
    refine g_nm (fun z0 e_z0 => ?_)
    refine g_istore_n (lv' := [(1, .int (iI z0)), (0, .ref (a 27))]) C d_F_addPath_24 (by decide) rfl rfl ?_
    refine g_iconst (z := 0) C d_F_addPath_25 rfl rfl ?_
    refine g_nm (fun i0 e_i0 => ?_)
    refine g_istore_n (lv' := [(2, .int (iI i0)), (1, .int (iI z0)), (0, .ref (a 27))]) C d_F_addPath_26 (by decide) rfl rfl ?_
    subst e_z0
    subst e_i0
    have hfar : S1 25 (2 * b) ≠ far := by unfold far at hbd ⊢; omega
    have hl16 := BF_len m3 (v := 2 * b) (by omega) (by omega) hfar
    refine lo_F_addPath hG hu hb hub hk0 hJ hE.2.1 m2 m3 m4 m1 hfar C hr hk _ 0 (2 * b) S1 (Nat.le_refl _) (by omega) eqx_rf ?_
    rw [m1 24 (by decide)]
    exact AU_0 (by omega) (by omega) hfar hJ.1.2.1
  · refine g_iconst (z := (-1)) C d_F_addPath_18 rfl rfl ?_
    refine g_iret C hr hk d_F_addPath_19 ⟨_, rfl, ?_⟩
    have hf : S1 25 (2 * b) = far := by unfold far at hbd ⊢; omega
    exact ⟨eqx_mono m1 (by simp), Or.inl ⟨rfl, m1 24 (by decide), FJ_cut hJ hm0 hE.2.1 hf⟩⟩

