/-! the class: the heap -/
theorem idiv2_ok {z : Int} (h0 : 0 ≤ z) (h1 : z < 2147483648) : iI z / iI 2 = iI (z / 2) := by
  rw [nI_iI h0, show iI 2 = nI 2 from rfl, pk_div (by omega) (by omega) (by omega), nI_iI (by omega)]
  congr 1
  omega
abbrev r62 (z : Int) : Prop := 0 ≤ z ∧ z < 4611686018427387904
/-- the heap has n numbers in order, S0's and x -/
def hadd (S0 S : Nat → Int → Int) (x : Int) (n : Nat) : Prop := eqx [16, 17] S0 S ∧ S 17 0 = n + 1 ∧ hp (S 16) (n + 1) ∧ (∀ v, ct (S 16) v (n + 1) = ct (S0 16) v n + (if x = v then 1 else 0)) ∧ ∀ i : Int, 0 ≤ i → i < n + 1 → r62 (S 16 i)
def haddI (S0 S : Nat → Int → Int) (x q : Int) (n : Nat) : Prop := eqx [16, 17] S0 S ∧ S 17 0 = n + 1 ∧ hu (S 16) x q (n + 1) ∧ (∀ v, ct (up_ (S 16) q x) v (n + 1) = ct (S0 16) v n + (if x = v then 1 else 0)) ∧ ∀ i : Int, 0 ≤ i → i < n + 1 → i ≠ q → r62 (S 16 i)
theorem eqx_us {l : List Nat} {S0 S : Nat → Int → Int} {k : Nat} {z v : Int} (h : eqx l S0 S) (hk : k ∈ l) : eqx l S0 (us S k z v) := fun j hj => by
  have hne : j ≠ k := fun e => hj (by rw [e]; exact hk)
  rw [us_n hne]
  exact h j hj
theorem eqx_rf {l : List Nat} {S : Nat → Int → Int} : eqx l S S := fun _ _ => rfl
theorem eqx_tr {l : List Nat} {S S1 S2 : Nat → Int → Int} (h : eqx l S S1) (h2 : eqx l S1 S2) : eqx l S S2 := fun k hk => (h2 k hk).trans (h k hk)
theorem eqx_mono {l l' : List Nat} {S S1 : Nat → Int → Int} (h : eqx l S S1) (hs : ∀ k, k ∈ l → k ∈ l') : eqx l' S S1 := fun k hk => h k (fun q => hk (hs k q))
theorem hadd_fin {S0 S : Nat → Int → Int} {x q : Int} {n : Nat} (h : haddI S0 S x q n) (hx : r62 x) (hc : q = 0 ∨ S 16 ((q - 1) / 2) ≤ x) : hadd S0 (us S 16 q x) x n := by
  obtain ⟨h1, h2, h3, h4, h5⟩ := h
  refine ⟨eqx_us h1 (by simp), by rw [us_n (by decide)]; exact h2, ?_, fun v => ?_, fun i i0 i1 => ?_⟩
  · rw [us_s]; exact hu_end h3 hc
  · rw [us_s]; exact h4 v
  · rw [us_s]
    by_cases e : i = q
    · rw [e, up_s]; exact hx
    · rw [up_n e]; exact h5 i i0 i1 e
theorem hadd_step {S0 S : Nat → Int → Int} {x q : Int} {n : Nat} (h : haddI S0 S x q n) (h0 : 0 < q) (hc : x < S 16 ((q - 1) / 2)) : haddI S0 (us S 16 q (S 16 ((q - 1) / 2))) x ((q - 1) / 2) n := by
  obtain ⟨h1, h2, h3, h4, h5⟩ := h
  have hq := h3.2.1
  refine ⟨eqx_us h1 (by simp), by rw [us_n (by decide)]; exact h2, ?_, fun v => ?_, fun i i0 i1 hne => ?_⟩
  · rw [us_s]; exact hu_step h3 h0 hc
  · rw [us_s, hl_move (by omega) (by omega) (by omega) (by omega) (by omega)]; exact h4 v
  · rw [us_s]
    by_cases e : i = q
    · rw [e, up_s]; exact h5 _ (by omega) (by omega) (by omega)
    · rw [up_n e]; exact h5 i i0 i1 e

set_option maxRecDepth 100000 in
set_option maxHeartbeats 4000000 in
theorem lo_H_add {l : Launch} {D : va_G} {a : Nat → Nat} {ki kz kl kq : ClassId} {p : Program} {e : Env} {s : State} {m : MethodId} {args : Array Value} {below : List Frame} {meth : Method} {c : Code} {S0 : Nat → Int → Int} {x : Int} {n : Nat} (hx : r62 x) (hn : n < 1458) (C : CX p s m args c b_H_add 4 "NextPaths$PathHeap" TT D cls (tyz ki kz kl kq)) (hr : meth.sig.returnType = none) (hk : meth.locks = false) : ∀ (k : Nat) (q : Int) (S : Nat → Int → Int), q.toNat ≤ k → haddI S0 S x q n → GG p l e rm_H_add s m args below meth c D cls (adr (wX a ki kz kl kq S0)) 4 0 0 (MQ below (QcW D cls (wX a ki kz kl kq) S0 (pV fun S' => hadd S0 S' x n)) args s 0 0 (adr (wX a ki kz kl kq S0))) (wX a ki kz kl kq) S [(3, .int (iI q)), (0, .ref (a 17)), (1, .long (lI x))] 26 [] := by
  intro k
  induction k with
  | zero =>
    intro q S hk0 hI
    have hq := hI.2.2.1.1
    have hq1 := hI.2.2.1.2.1
    refine g_iload_n C d_H_add_26 rfl rfl ?_
    refine g_if_le (tgt := 70) C d_H_add_27 (by decide) rfl (by omega) (fun h27 => ?_) (fun h27 => ?_)
    · refine g_aload_n C d_H_add_70 rfl rfl ?_
      refine g_get C 17 0 i_H wX_17 rfl (by decide) k_H_9 rfl rfl d_H_add_71 rfl ?_
      refine g_iload_n C d_H_add_74 rfl rfl ?_
      refine g_lload_n C d_H_add_75 rfl rfl ?_
      refine g_last C 18 2 wX_18 rfl (by omega) (by omega) (by decide) wX_s18 d_H_add_76 rfl ?_
      refine g_vret C hr hk d_H_add_77 ⟨rfl, ?_⟩
      refine hadd_fin hI hx ?_
      first
        | (left; omega)
        | (right; exact sg_le.mp h42)
    · exact absurd h27 (by omega)
  | succ k ih =>
    intro q S hk0 hI
    have hq := hI.2.2.1.1
    have hq1 := hI.2.2.1.2.1
    refine g_iload_n C d_H_add_26 rfl rfl ?_
    refine g_if_le (tgt := 70) C d_H_add_27 (by decide) rfl (by omega) (fun h27 => ?_) (fun h27 => ?_)
    · refine g_aload_n C d_H_add_70 rfl rfl ?_
      refine g_get C 17 0 i_H wX_17 rfl (by decide) k_H_9 rfl rfl d_H_add_71 rfl ?_
      refine g_iload_n C d_H_add_74 rfl rfl ?_
      refine g_lload_n C d_H_add_75 rfl rfl ?_
      refine g_last C 18 2 wX_18 rfl (by omega) (by omega) (by decide) wX_s18 d_H_add_76 rfl ?_
      refine g_vret C hr hk d_H_add_77 ⟨rfl, ?_⟩
      refine hadd_fin hI hx ?_
      first
        | (left; omega)
        | (right; exact sg_le.mp h42)
    · refine g_aload_n C d_H_add_30 rfl rfl ?_
      refine g_get C 17 0 i_H wX_17 rfl (by decide) k_H_9 rfl rfl d_H_add_31 rfl ?_
      refine g_iload_n C d_H_add_34 rfl rfl ?_
      refine g_iconst (z := 1) C d_H_add_35 rfl rfl ?_
      refine g_isub C d_H_add_36 rfl rfl ?_
      refine g_iconst (z := 2) C d_H_add_37 rfl rfl ?_
      refine g_idiv (z := ((q - 1) / 2)) C d_H_add_38 (by decide) (idiv2_ok (by omega) (by omega)) rfl ?_
      refine g_lald C 18 2 wX_18 rfl (by omega) (by omega) (by decide) d_H_add_39 rfl ?_
      refine g_lload_n C d_H_add_40 rfl rfl ?_
      refine g_lcmp C d_H_add_41 (by have := hI.2.2.2.2 ((q - 1) / 2) (by omega) (by omega) (by omega); omega) (by omega) rfl ?_
      refine g_if_le (tgt := 70) C d_H_add_42 (by decide) rfl (sg_r _ _) (fun h42 => ?_) (fun h42 => ?_)
      · refine g_aload_n C d_H_add_70 rfl rfl ?_
        refine g_get C 17 0 i_H wX_17 rfl (by decide) k_H_9 rfl rfl d_H_add_71 rfl ?_
        refine g_iload_n C d_H_add_74 rfl rfl ?_
        refine g_lload_n C d_H_add_75 rfl rfl ?_
        refine g_last C 18 2 wX_18 rfl (by omega) (by omega) (by decide) wX_s18 d_H_add_76 rfl ?_
        refine g_vret C hr hk d_H_add_77 ⟨rfl, ?_⟩
        refine hadd_fin hI hx ?_
        first
          | (left; omega)
          | (right; exact sg_le.mp h42)
      · refine g_aload_n C d_H_add_45 rfl rfl ?_
        refine g_get C 17 0 i_H wX_17 rfl (by decide) k_H_9 rfl rfl d_H_add_46 rfl ?_
        refine g_iload_n C d_H_add_49 rfl rfl ?_
        refine g_aload_n C d_H_add_50 rfl rfl ?_
        refine g_get C 17 0 i_H wX_17 rfl (by decide) k_H_9 rfl rfl d_H_add_51 rfl ?_
        refine g_iload_n C d_H_add_54 rfl rfl ?_
        refine g_iconst (z := 1) C d_H_add_55 rfl rfl ?_
        refine g_isub C d_H_add_56 rfl rfl ?_
        refine g_iconst (z := 2) C d_H_add_57 rfl rfl ?_
        refine g_idiv (z := ((q - 1) / 2)) C d_H_add_58 (by decide) (idiv2_ok (by omega) (by omega)) rfl ?_
        refine g_lald C 18 2 wX_18 rfl (by omega) (by omega) (by decide) d_H_add_59 rfl ?_
        refine g_last C 18 2 wX_18 rfl (by omega) (by omega) (by decide) wX_s18 d_H_add_60 rfl ?_
        refine g_iload_n C d_H_add_61 rfl rfl ?_
        refine g_iconst (z := 1) C d_H_add_62 rfl rfl ?_
        refine g_isub C d_H_add_63 rfl rfl ?_
        refine g_iconst (z := 2) C d_H_add_64 rfl rfl ?_
        refine g_idiv (z := ((q - 1) / 2)) C d_H_add_65 (by decide) (idiv2_ok (by omega) (by omega)) rfl ?_
        refine g_nm (fun q2 e_q2 => ?_)
        refine g_istore_n (lv' := [(3, .int (iI q2)), (0, .ref (a 17)), (1, .long (lI x))]) C d_H_add_66 (by decide) rfl rfl ?_
        refine g_goto (tgt := 26) C d_H_add_67 (by decide) ?_
        refine GG.lvs (lv' := [(3, .int (iI q2)), (0, .ref (a 17)), (1, .long (lI x))]) (by simp [lk]) ?_
        subst e_q2
        exact ih _ _ (by omega) (hadd_step hI (by omega) (sg_gt.mp h42))

set_option maxRecDepth 100000 in
set_option maxHeartbeats 4000000 in
theorem m_H_add {l : Launch} {D : va_G} {a : Nat → Nat} {ki kz kl kq : ClassId} {S : Nat → Int → Int} {x : Int} {n : Nat} (hx : r62 x) (hs : S 17 0 = n) (hn : n < 1458) (hh : hp (S 16) n) (hb : ∀ i : Int, 0 ≤ i → i < n → r62 (S 16 i)) : MX l D a ki kz kl kq y_H_add b_H_add 4 none rm_H_add [.ref (a 17), .long (lI x)] S (pV fun S' => hadd S S' x n) := by
  refine MM.go b_H_add 4 none "NextPaths$PathHeap" [(0, .ref (a 17)), (1, .long (lI x))] (by decide) rfl rfl (Nat.le_of_ble_eq_true rfl) ?_
  intro p e s m args below meth c C hr hk
  refine g_aload_n C d_H_add_0 rfl rfl ?_
  refine g_get C 17 1 i_H wX_17 rfl (by decide) k_H_15 rfl rfl d_H_add_1 rfl ?_
  refine g_sipush (z := 1458) C d_H_add_4 rfl (by decide) ?_
  refine g_icmp_lt (tgt := 11) C d_H_add_7 (by decide) rfl (by omega) (by omega) (fun h7 => ?_) (fun h7 => ?_)
  · refine g_aload_n C d_H_add_11 rfl rfl ?_
    refine g_get C 17 1 i_H wX_17 rfl (by decide) k_H_15 rfl rfl d_H_add_12 rfl ?_
    refine g_nm (fun q e_q => ?_)
    refine g_istore_n (lv' := [(3, .int (iI q)), (0, .ref (a 17)), (1, .long (lI x))]) C d_H_add_15 (by decide) rfl rfl ?_
    refine g_aload_n C d_H_add_16 rfl rfl ?_
    refine g_dup C d_H_add_17 rfl rfl ?_
    refine g_get C 17 1 i_H wX_17 rfl (by decide) k_H_15 rfl rfl d_H_add_18 rfl ?_
    refine g_iconst (z := 1) C d_H_add_21 rfl rfl ?_
    refine g_iadd C d_H_add_22 rfl rfl ?_
    refine g_put (ty := .int) C 17 1 ty_H i_H ty_H_ok n_H wX_17 rfl (by decide) k_H_15 rfl rfl (by decide +kernel) rfl rfl (Nat.le_of_ble_eq_true rfl) wX_p17_1 d_H_add_23 rfl ?_
    subst e_q
    refine lo_H_add hx hn C hr hk n _ _ (by omega) ⟨eqx_us eqx_rf (by simp), by rw [us_s, up_s]; omega, ?_, fun v => ?_, fun i i0 i1 hne => ?_⟩
    · rw [us_n (by decide), hs]; exact hu_0 hh x
    · rw [us_n (by decide), hs, ct_s, up_s]
      rw [ct_congr v n (f := up_ (S 16) n x) (g := S 16) (fun j _ hj => up_n (by omega))]
    · rw [us_n (by decide)]; exact hb i i0 (by omega)
  · exact absurd h7 (by omega)

theorem lc_l {P : Int → Int} {q f : Int} {n : Nat} (hf : f = 2 * q + 1) (h : (n : Int) ≤ f + 1 ∨ P f ≤ P (f + 1)) : lc P q f n := by
  refine ⟨by omega, fun hc i i0 i1 hp => ?_, fun hc i i0 i1 hp => by omega⟩
  rcases (show i = f ∨ i = f + 1 by omega) with e | e
  · rw [e]; exact Int.le_refl _
  · rw [e]; rcases h with h | h
    · omega
    · exact h
theorem lc_r {P : Int → Int} {q f : Int} {n : Nat} (hf : f = 2 * q + 1) (hn : f + 1 < n) (h : P (f + 1) < P f) : lc P q (f + 1) n := by
  refine ⟨by omega, fun hc i i0 i1 hp => ?_, fun hc i i0 i1 hp => by omega⟩
  rcases (show i = f ∨ i = f + 1 by omega) with e | e
  · rw [e]; exact Int.le_of_lt h
  · rw [e]; exact Int.le_refl _

def hsnk (S0 S : Nat → Int → Int) (x : Int) (n : Nat) : Prop := eqx [16] S0 S ∧ hp (S 16) n ∧ (∀ v, ct (S 16) v n = ct (up_ (S0 16) 0 x) v n) ∧ ∀ i : Int, 0 ≤ i → i < n → r62 (S 16 i)
def hsnkI (S0 S : Nat → Int → Int) (x q : Int) (n : Nat) : Prop := eqx [16] S0 S ∧ hd (S 16) x q n ∧ (∀ v, ct (up_ (S 16) q x) v n = ct (up_ (S0 16) 0 x) v n) ∧ (∀ i : Int, 0 ≤ i → i < n → r62 (S 16 i)) ∧ (q = 0 ∨ q < n)
theorem hsnk_fin {S0 S : Nat → Int → Int} {x q : Int} {n : Nat} (h : hsnkI S0 S x q n) (hx : r62 x) (hc : (n : Int) ≤ q ∨ ∃ c, lc (S 16) q c n ∧ ((n : Int) ≤ c ∨ x ≤ S 16 c)) : hsnk S0 (us S 16 q x) x n := by
  obtain ⟨h1, h2, h3, h4, h5⟩ := h
  have q0 := h2.1
  refine ⟨eqx_us h1 (by simp), ?_, fun v => ?_, fun i i0 i1 => ?_⟩
  · rw [us_s]
    rcases hc with hc | ⟨c, hl, hc⟩
    · intro i i0 i1; omega
    · exact hd_end h2 hl hc
  · rw [us_s]; exact h3 v
  · rw [us_s]
    by_cases e : i = q
    · rw [e, up_s]; exact hx
    · rw [up_n e]; exact h4 i i0 i1
theorem hsnk_step {S0 S : Nat → Int → Int} {x q c : Int} {n : Nat} (h : hsnkI S0 S x q n) (hq : q < n) (hl : lc (S 16) q c n) (hcn : c < n) (hc : S 16 c < x) : hsnkI S0 (us S 16 q (S 16 c)) x c n := by
  obtain ⟨h1, h2, h3, h4, h5⟩ := h
  have q0 := h2.1
  have hcq := hl.1
  refine ⟨eqx_us h1 (by simp), ?_, fun v => ?_, fun i i0 i1 => ?_, Or.inr hcn⟩
  · rw [us_s]; exact hd_step h2 hl hcn hc
  · rw [us_s, hl_move (by omega) (by omega) (by omega) (by omega) (by omega)]; exact h3 v
  · rw [us_s]
    by_cases e : i = q
    · rw [e, up_s]; exact h4 _ (by omega) (by omega)
    · rw [up_n e]; exact h4 i i0 i1

set_option maxRecDepth 100000 in
set_option maxHeartbeats 4000000 in
theorem lo_H_sink {l : Launch} {D : va_G} {a : Nat → Nat} {ki kz kl kq : ClassId} {p : Program} {e : Env} {s : State} {m : MethodId} {args : Array Value} {below : List Frame} {meth : Method} {c : Code} {S0 : Nat → Int → Int} {x : Int} {n : Nat} (hx : r62 x) (hn : n ≤ 1458) (C : CX p s m args c b_H_sinkFromTop 6 "NextPaths$PathHeap" TT D cls (tyz ki kz kl kq)) (hr : meth.sig.returnType = none) (hk : meth.locks = false) : ∀ (k : Nat) (q f : Int) (S : Nat → Int → Int), n ≤ q.toNat + k → f = 2 * q + 1 → S 17 0 = n → hsnkI S0 S x q n → GG p l e rm_H_sinkFromTop s m args below meth c D cls (adr (wX a ki kz kl kq S0)) 6 0 0 (MQ below (QcW D cls (wX a ki kz kl kq) S0 (pV fun S' => hsnk S0 S' x n)) args s 0 0 (adr (wX a ki kz kl kq S0))) (wX a ki kz kl kq) S [(4, .int (iI f)), (3, .int (iI q)), (0, .ref (a 17)), (1, .long (lI x))] 5 [] := by
  intro k
  induction k with
  | zero =>
    intro q f S hk0 hf hs hI
    have hq := hI.2.1.1
    have hq1 := hI.2.2.2.2
    refine g_iload C d_H_sinkFromTop_5 rfl rfl ?_
    refine g_aload_n C d_H_sinkFromTop_7 rfl rfl ?_
    refine g_get C 17 1 i_H wX_17 rfl (by decide) k_H_15 rfl rfl d_H_sinkFromTop_8 rfl ?_
    refine g_icmp_ge (tgt := 97) C d_H_sinkFromTop_11 (by decide) rfl (by omega) (by omega) (fun h11 => ?_) (fun h11 => ?_)
    · refine g_aload_n C d_H_sinkFromTop_97 rfl rfl ?_
      refine g_get C 17 0 i_H wX_17 rfl (by decide) k_H_9 rfl rfl d_H_sinkFromTop_98 rfl ?_
      refine g_iload_n C d_H_sinkFromTop_101 rfl rfl ?_
      refine g_lload_n C d_H_sinkFromTop_102 rfl rfl ?_
      refine g_last C 18 2 wX_18 rfl (by omega) (by omega) (by decide) wX_s18 d_H_sinkFromTop_103 rfl ?_
      refine g_vret C hr hk d_H_sinkFromTop_104 ⟨rfl, ?_⟩
      refine hsnk_fin hI hx ?_
      right
      first
        | (subst e_w; exact ⟨_, lc_r hf (by omega) (sg_lt.mp h42), Or.inr (sg_ge.mp h65)⟩)
        | (subst e_w; exact ⟨_, lc_l hf (Or.inr (sg_ge.mp h42)), Or.inr (sg_ge.mp h65)⟩)
        | (subst e_w; exact ⟨_, lc_l hf (Or.inl (by omega)), Or.inr (sg_ge.mp h65)⟩)
        | exact ⟨f, lc_l hf (Or.inl (by omega)), Or.inl (by omega)⟩
    · exact absurd h11 (by omega)
  | succ k ih =>
    intro q f S hk0 hf hs hI
    have hq := hI.2.1.1
    have hq1 := hI.2.2.2.2
    refine g_iload C d_H_sinkFromTop_5 rfl rfl ?_
    refine g_aload_n C d_H_sinkFromTop_7 rfl rfl ?_
    refine g_get C 17 1 i_H wX_17 rfl (by decide) k_H_15 rfl rfl d_H_sinkFromTop_8 rfl ?_
    refine g_icmp_ge (tgt := 97) C d_H_sinkFromTop_11 (by decide) rfl (by omega) (by omega) (fun h11 => ?_) (fun h11 => ?_)
    · refine g_aload_n C d_H_sinkFromTop_97 rfl rfl ?_
      refine g_get C 17 0 i_H wX_17 rfl (by decide) k_H_9 rfl rfl d_H_sinkFromTop_98 rfl ?_
      refine g_iload_n C d_H_sinkFromTop_101 rfl rfl ?_
      refine g_lload_n C d_H_sinkFromTop_102 rfl rfl ?_
      refine g_last C 18 2 wX_18 rfl (by omega) (by omega) (by decide) wX_s18 d_H_sinkFromTop_103 rfl ?_
      refine g_vret C hr hk d_H_sinkFromTop_104 ⟨rfl, ?_⟩
      refine hsnk_fin hI hx ?_
      right
      first
        | (subst e_w; exact ⟨_, lc_r hf (by omega) (sg_lt.mp h42), Or.inr (sg_ge.mp h65)⟩)
        | (subst e_w; exact ⟨_, lc_l hf (Or.inr (sg_ge.mp h42)), Or.inr (sg_ge.mp h65)⟩)
        | (subst e_w; exact ⟨_, lc_l hf (Or.inl (by omega)), Or.inr (sg_ge.mp h65)⟩)
        | exact ⟨f, lc_l hf (Or.inl (by omega)), Or.inl (by omega)⟩
    · refine g_iload C d_H_sinkFromTop_14 rfl rfl ?_
      refine g_iconst (z := 1) C d_H_sinkFromTop_16 rfl rfl ?_
      refine g_iadd C d_H_sinkFromTop_17 rfl rfl ?_
      refine g_aload_n C d_H_sinkFromTop_18 rfl rfl ?_
      refine g_get C 17 1 i_H wX_17 rfl (by decide) k_H_15 rfl rfl d_H_sinkFromTop_19 rfl ?_
      refine g_icmp_ge (tgt := 52) C d_H_sinkFromTop_22 (by decide) rfl (by omega) (by omega) (fun h22 => ?_) (fun h22 => ?_)
      · refine g_iload C d_H_sinkFromTop_52 rfl rfl ?_
        refine g_nm (fun w e_w => ?_)
        refine g_istore (lv' := [(5, .int (iI w)), (4, .int (iI f)), (3, .int (iI q)), (0, .ref (a 17)), (1, .long (lI x))]) C d_H_sinkFromTop_54 (by decide) rfl rfl ?_
        refine g_aload_n C d_H_sinkFromTop_56 rfl rfl ?_
        refine g_get C 17 0 i_H wX_17 rfl (by decide) k_H_9 rfl rfl d_H_sinkFromTop_57 rfl ?_
        refine g_iload C d_H_sinkFromTop_60 rfl rfl ?_
        refine g_lald C 18 2 wX_18 rfl (by omega) (by omega) (by decide) d_H_sinkFromTop_62 rfl ?_
        refine g_lload_n C d_H_sinkFromTop_63 rfl rfl ?_
        refine g_lcmp C d_H_sinkFromTop_64 (by have := hI.2.2.2.1 w (by omega) (by omega); omega) (by omega) rfl ?_
        refine g_if_lt (tgt := 71) C d_H_sinkFromTop_65 (by decide) rfl (sg_r _ _) (fun h65 => ?_) (fun h65 => ?_)
        · refine g_aload_n C d_H_sinkFromTop_71 rfl rfl ?_
          refine g_get C 17 0 i_H wX_17 rfl (by decide) k_H_9 rfl rfl d_H_sinkFromTop_72 rfl ?_
          refine g_iload_n C d_H_sinkFromTop_75 rfl rfl ?_
          refine g_aload_n C d_H_sinkFromTop_76 rfl rfl ?_
          refine g_get C 17 0 i_H wX_17 rfl (by decide) k_H_9 rfl rfl d_H_sinkFromTop_77 rfl ?_
          refine g_iload C d_H_sinkFromTop_80 rfl rfl ?_
          refine g_lald C 18 2 wX_18 rfl (by omega) (by omega) (by decide) d_H_sinkFromTop_82 rfl ?_
          refine g_last C 18 2 wX_18 rfl (by omega) (by omega) (by decide) wX_s18 d_H_sinkFromTop_83 rfl ?_
          refine g_iload C d_H_sinkFromTop_84 rfl rfl ?_
          refine g_nm (fun q2 e_q2 => ?_)
          refine g_istore_n (lv' := [(3, .int (iI q2)), (5, .int (iI w)), (4, .int (iI f)), (0, .ref (a 17)), (1, .long (lI x))]) C d_H_sinkFromTop_86 (by decide) rfl rfl ?_
          refine g_iconst (z := 2) C d_H_sinkFromTop_87 rfl rfl ?_
          refine g_iload_n C d_H_sinkFromTop_88 rfl rfl ?_
          refine g_imul C d_H_sinkFromTop_89 rfl rfl ?_
          refine g_iconst (z := 1) C d_H_sinkFromTop_90 rfl rfl ?_
          refine g_iadd C d_H_sinkFromTop_91 rfl rfl ?_
          refine g_nm (fun f2 e_f2 => ?_)
          refine g_istore (lv' := [(4, .int (iI f2)), (3, .int (iI q2)), (5, .int (iI w)), (0, .ref (a 17)), (1, .long (lI x))]) C d_H_sinkFromTop_92 (by decide) rfl rfl ?_
          refine g_goto (tgt := 5) C d_H_sinkFromTop_94 (by decide) ?_
          refine GG.lvs (lv' := [(4, .int (iI f2)), (3, .int (iI q2)), (0, .ref (a 17)), (1, .long (lI x))]) (by simp [lk]) ?_
          subst e_q2
          subst e_w
          refine ih _ _ _ (by omega) e_f2 (by rw [us_n (by decide)]; exact hs) (hsnk_step hI (by omega) ?_ (by omega) (sg_lt.mp h65))
          first
            | exact lc_r hf (by omega) (sg_lt.mp h42)
            | exact lc_l hf (Or.inr (sg_ge.mp h42))
            | exact lc_l hf (Or.inl (by omega))
        · refine g_goto (tgt := 97) C d_H_sinkFromTop_68 (by decide) ?_
          refine g_aload_n C d_H_sinkFromTop_97 rfl rfl ?_
          refine g_get C 17 0 i_H wX_17 rfl (by decide) k_H_9 rfl rfl d_H_sinkFromTop_98 rfl ?_
          refine g_iload_n C d_H_sinkFromTop_101 rfl rfl ?_
          refine g_lload_n C d_H_sinkFromTop_102 rfl rfl ?_
          refine g_last C 18 2 wX_18 rfl (by omega) (by omega) (by decide) wX_s18 d_H_sinkFromTop_103 rfl ?_
          refine g_vret C hr hk d_H_sinkFromTop_104 ⟨rfl, ?_⟩
          refine hsnk_fin hI hx ?_
          right
          first
            | (subst e_w; exact ⟨_, lc_r hf (by omega) (sg_lt.mp h42), Or.inr (sg_ge.mp h65)⟩)
            | (subst e_w; exact ⟨_, lc_l hf (Or.inr (sg_ge.mp h42)), Or.inr (sg_ge.mp h65)⟩)
            | (subst e_w; exact ⟨_, lc_l hf (Or.inl (by omega)), Or.inr (sg_ge.mp h65)⟩)
            | exact ⟨f, lc_l hf (Or.inl (by omega)), Or.inl (by omega)⟩
      · refine g_aload_n C d_H_sinkFromTop_25 rfl rfl ?_
        refine g_get C 17 0 i_H wX_17 rfl (by decide) k_H_9 rfl rfl d_H_sinkFromTop_26 rfl ?_
        refine g_iload C d_H_sinkFromTop_29 rfl rfl ?_
        refine g_iconst (z := 1) C d_H_sinkFromTop_31 rfl rfl ?_
        refine g_iadd C d_H_sinkFromTop_32 rfl rfl ?_
        refine g_lald C 18 2 wX_18 rfl (by omega) (by omega) (by decide) d_H_sinkFromTop_33 rfl ?_
        refine g_aload_n C d_H_sinkFromTop_34 rfl rfl ?_
        refine g_get C 17 0 i_H wX_17 rfl (by decide) k_H_9 rfl rfl d_H_sinkFromTop_35 rfl ?_
        refine g_iload C d_H_sinkFromTop_38 rfl rfl ?_
        refine g_lald C 18 2 wX_18 rfl (by omega) (by omega) (by decide) d_H_sinkFromTop_40 rfl ?_
        refine g_lcmp C d_H_sinkFromTop_41 (by have := hI.2.2.2.1 (f + 1) (by omega) (by omega); omega) (by have := hI.2.2.2.1 f (by omega) (by omega); omega) rfl ?_
        refine g_if_ge (tgt := 52) C d_H_sinkFromTop_42 (by decide) rfl (sg_r _ _) (fun h42 => ?_) (fun h42 => ?_)
        · refine g_iload C d_H_sinkFromTop_52 rfl rfl ?_
          refine g_nm (fun w e_w => ?_)
          refine g_istore (lv' := [(5, .int (iI w)), (4, .int (iI f)), (3, .int (iI q)), (0, .ref (a 17)), (1, .long (lI x))]) C d_H_sinkFromTop_54 (by decide) rfl rfl ?_
          refine g_aload_n C d_H_sinkFromTop_56 rfl rfl ?_
          refine g_get C 17 0 i_H wX_17 rfl (by decide) k_H_9 rfl rfl d_H_sinkFromTop_57 rfl ?_
          refine g_iload C d_H_sinkFromTop_60 rfl rfl ?_
          refine g_lald C 18 2 wX_18 rfl (by omega) (by omega) (by decide) d_H_sinkFromTop_62 rfl ?_
          refine g_lload_n C d_H_sinkFromTop_63 rfl rfl ?_
          refine g_lcmp C d_H_sinkFromTop_64 (by have := hI.2.2.2.1 w (by omega) (by omega); omega) (by omega) rfl ?_
          refine g_if_lt (tgt := 71) C d_H_sinkFromTop_65 (by decide) rfl (sg_r _ _) (fun h65 => ?_) (fun h65 => ?_)
          · refine g_aload_n C d_H_sinkFromTop_71 rfl rfl ?_
            refine g_get C 17 0 i_H wX_17 rfl (by decide) k_H_9 rfl rfl d_H_sinkFromTop_72 rfl ?_
            refine g_iload_n C d_H_sinkFromTop_75 rfl rfl ?_
            refine g_aload_n C d_H_sinkFromTop_76 rfl rfl ?_
            refine g_get C 17 0 i_H wX_17 rfl (by decide) k_H_9 rfl rfl d_H_sinkFromTop_77 rfl ?_
            refine g_iload C d_H_sinkFromTop_80 rfl rfl ?_
            refine g_lald C 18 2 wX_18 rfl (by omega) (by omega) (by decide) d_H_sinkFromTop_82 rfl ?_
            refine g_last C 18 2 wX_18 rfl (by omega) (by omega) (by decide) wX_s18 d_H_sinkFromTop_83 rfl ?_
            refine g_iload C d_H_sinkFromTop_84 rfl rfl ?_
            refine g_nm (fun q2 e_q2 => ?_)
            refine g_istore_n (lv' := [(3, .int (iI q2)), (5, .int (iI w)), (4, .int (iI f)), (0, .ref (a 17)), (1, .long (lI x))]) C d_H_sinkFromTop_86 (by decide) rfl rfl ?_
            refine g_iconst (z := 2) C d_H_sinkFromTop_87 rfl rfl ?_
            refine g_iload_n C d_H_sinkFromTop_88 rfl rfl ?_
            refine g_imul C d_H_sinkFromTop_89 rfl rfl ?_
            refine g_iconst (z := 1) C d_H_sinkFromTop_90 rfl rfl ?_
            refine g_iadd C d_H_sinkFromTop_91 rfl rfl ?_
            refine g_nm (fun f2 e_f2 => ?_)
            refine g_istore (lv' := [(4, .int (iI f2)), (3, .int (iI q2)), (5, .int (iI w)), (0, .ref (a 17)), (1, .long (lI x))]) C d_H_sinkFromTop_92 (by decide) rfl rfl ?_
            refine g_goto (tgt := 5) C d_H_sinkFromTop_94 (by decide) ?_
            refine GG.lvs (lv' := [(4, .int (iI f2)), (3, .int (iI q2)), (0, .ref (a 17)), (1, .long (lI x))]) (by simp [lk]) ?_
            subst e_q2
            subst e_w
            refine ih _ _ _ (by omega) e_f2 (by rw [us_n (by decide)]; exact hs) (hsnk_step hI (by omega) ?_ (by omega) (sg_lt.mp h65))
            first
              | exact lc_r hf (by omega) (sg_lt.mp h42)
              | exact lc_l hf (Or.inr (sg_ge.mp h42))
              | exact lc_l hf (Or.inl (by omega))
          · refine g_goto (tgt := 97) C d_H_sinkFromTop_68 (by decide) ?_
            refine g_aload_n C d_H_sinkFromTop_97 rfl rfl ?_
            refine g_get C 17 0 i_H wX_17 rfl (by decide) k_H_9 rfl rfl d_H_sinkFromTop_98 rfl ?_
            refine g_iload_n C d_H_sinkFromTop_101 rfl rfl ?_
            refine g_lload_n C d_H_sinkFromTop_102 rfl rfl ?_
            refine g_last C 18 2 wX_18 rfl (by omega) (by omega) (by decide) wX_s18 d_H_sinkFromTop_103 rfl ?_
            refine g_vret C hr hk d_H_sinkFromTop_104 ⟨rfl, ?_⟩
            refine hsnk_fin hI hx ?_
            right
            first
              | (subst e_w; exact ⟨_, lc_r hf (by omega) (sg_lt.mp h42), Or.inr (sg_ge.mp h65)⟩)
              | (subst e_w; exact ⟨_, lc_l hf (Or.inr (sg_ge.mp h42)), Or.inr (sg_ge.mp h65)⟩)
              | (subst e_w; exact ⟨_, lc_l hf (Or.inl (by omega)), Or.inr (sg_ge.mp h65)⟩)
              | exact ⟨f, lc_l hf (Or.inl (by omega)), Or.inl (by omega)⟩
        · refine g_iload C d_H_sinkFromTop_45 rfl rfl ?_
          refine g_iconst (z := 1) C d_H_sinkFromTop_47 rfl rfl ?_
          refine g_iadd C d_H_sinkFromTop_48 rfl rfl ?_
          refine g_goto (tgt := 54) C d_H_sinkFromTop_49 (by decide) ?_
          refine g_nm (fun w e_w => ?_)
          refine g_istore (lv' := [(5, .int (iI w)), (4, .int (iI f)), (3, .int (iI q)), (0, .ref (a 17)), (1, .long (lI x))]) C d_H_sinkFromTop_54 (by decide) rfl rfl ?_
          refine g_aload_n C d_H_sinkFromTop_56 rfl rfl ?_
          refine g_get C 17 0 i_H wX_17 rfl (by decide) k_H_9 rfl rfl d_H_sinkFromTop_57 rfl ?_
          refine g_iload C d_H_sinkFromTop_60 rfl rfl ?_
          refine g_lald C 18 2 wX_18 rfl (by omega) (by omega) (by decide) d_H_sinkFromTop_62 rfl ?_
          refine g_lload_n C d_H_sinkFromTop_63 rfl rfl ?_
          refine g_lcmp C d_H_sinkFromTop_64 (by have := hI.2.2.2.1 w (by omega) (by omega); omega) (by omega) rfl ?_
          refine g_if_lt (tgt := 71) C d_H_sinkFromTop_65 (by decide) rfl (sg_r _ _) (fun h65 => ?_) (fun h65 => ?_)
          · refine g_aload_n C d_H_sinkFromTop_71 rfl rfl ?_
            refine g_get C 17 0 i_H wX_17 rfl (by decide) k_H_9 rfl rfl d_H_sinkFromTop_72 rfl ?_
            refine g_iload_n C d_H_sinkFromTop_75 rfl rfl ?_
            refine g_aload_n C d_H_sinkFromTop_76 rfl rfl ?_
            refine g_get C 17 0 i_H wX_17 rfl (by decide) k_H_9 rfl rfl d_H_sinkFromTop_77 rfl ?_
            refine g_iload C d_H_sinkFromTop_80 rfl rfl ?_
            refine g_lald C 18 2 wX_18 rfl (by omega) (by omega) (by decide) d_H_sinkFromTop_82 rfl ?_
            refine g_last C 18 2 wX_18 rfl (by omega) (by omega) (by decide) wX_s18 d_H_sinkFromTop_83 rfl ?_
            refine g_iload C d_H_sinkFromTop_84 rfl rfl ?_
            refine g_nm (fun q2 e_q2 => ?_)
            refine g_istore_n (lv' := [(3, .int (iI q2)), (5, .int (iI w)), (4, .int (iI f)), (0, .ref (a 17)), (1, .long (lI x))]) C d_H_sinkFromTop_86 (by decide) rfl rfl ?_
            refine g_iconst (z := 2) C d_H_sinkFromTop_87 rfl rfl ?_
            refine g_iload_n C d_H_sinkFromTop_88 rfl rfl ?_
            refine g_imul C d_H_sinkFromTop_89 rfl rfl ?_
            refine g_iconst (z := 1) C d_H_sinkFromTop_90 rfl rfl ?_
            refine g_iadd C d_H_sinkFromTop_91 rfl rfl ?_
            refine g_nm (fun f2 e_f2 => ?_)
            refine g_istore (lv' := [(4, .int (iI f2)), (3, .int (iI q2)), (5, .int (iI w)), (0, .ref (a 17)), (1, .long (lI x))]) C d_H_sinkFromTop_92 (by decide) rfl rfl ?_
            refine g_goto (tgt := 5) C d_H_sinkFromTop_94 (by decide) ?_
            refine GG.lvs (lv' := [(4, .int (iI f2)), (3, .int (iI q2)), (0, .ref (a 17)), (1, .long (lI x))]) (by simp [lk]) ?_
            subst e_q2
            subst e_w
            refine ih _ _ _ (by omega) e_f2 (by rw [us_n (by decide)]; exact hs) (hsnk_step hI (by omega) ?_ (by omega) (sg_lt.mp h65))
            first
              | exact lc_r hf (by omega) (sg_lt.mp h42)
              | exact lc_l hf (Or.inr (sg_ge.mp h42))
              | exact lc_l hf (Or.inl (by omega))
          · refine g_goto (tgt := 97) C d_H_sinkFromTop_68 (by decide) ?_
            refine g_aload_n C d_H_sinkFromTop_97 rfl rfl ?_
            refine g_get C 17 0 i_H wX_17 rfl (by decide) k_H_9 rfl rfl d_H_sinkFromTop_98 rfl ?_
            refine g_iload_n C d_H_sinkFromTop_101 rfl rfl ?_
            refine g_lload_n C d_H_sinkFromTop_102 rfl rfl ?_
            refine g_last C 18 2 wX_18 rfl (by omega) (by omega) (by decide) wX_s18 d_H_sinkFromTop_103 rfl ?_
            refine g_vret C hr hk d_H_sinkFromTop_104 ⟨rfl, ?_⟩
            refine hsnk_fin hI hx ?_
            right
            first
              | (subst e_w; exact ⟨_, lc_r hf (by omega) (sg_lt.mp h42), Or.inr (sg_ge.mp h65)⟩)
              | (subst e_w; exact ⟨_, lc_l hf (Or.inr (sg_ge.mp h42)), Or.inr (sg_ge.mp h65)⟩)
              | (subst e_w; exact ⟨_, lc_l hf (Or.inl (by omega)), Or.inr (sg_ge.mp h65)⟩)
              | exact ⟨f, lc_l hf (Or.inl (by omega)), Or.inl (by omega)⟩

set_option maxRecDepth 100000 in
set_option maxHeartbeats 4000000 in
theorem m_H_sinkFromTop {l : Launch} {D : va_G} {a : Nat → Nat} {ki kz kl kq : ClassId} {S : Nat → Int → Int} {x : Int} {n : Nat} (hx : r62 x) (hs : S 17 0 = n) (hn : n ≤ 1458) (hh : hp (S 16) (n + 1)) (hb : ∀ i : Int, 0 ≤ i → i < n → r62 (S 16 i)) : MX l D a ki kz kl kq y_H_sinkFromTop b_H_sinkFromTop 6 none rm_H_sinkFromTop [.ref (a 17), .long (lI x)] S (pV fun S' => hsnk S S' x n) := by
  refine MM.go b_H_sinkFromTop 6 none "NextPaths$PathHeap" [(0, .ref (a 17)), (1, .long (lI x))] (by decide) rfl rfl (Nat.le_of_ble_eq_true rfl) ?_
  intro p e s m args below meth c C hr hk
  refine g_iconst (z := 0) C d_H_sinkFromTop_0 rfl rfl ?_
  refine g_nm (fun q e_q => ?_)
  refine g_istore_n (lv' := [(3, .int (iI q)), (0, .ref (a 17)), (1, .long (lI x))]) C d_H_sinkFromTop_1 (by decide) rfl rfl ?_
  refine g_iconst (z := 1) C d_H_sinkFromTop_2 rfl rfl ?_
  refine g_nm (fun f e_f => ?_)
  refine g_istore (lv' := [(4, .int (iI f)), (3, .int (iI q)), (0, .ref (a 17)), (1, .long (lI x))]) C d_H_sinkFromTop_3 (by decide) rfl rfl ?_
  subst e_q
  subst e_f
  exact lo_H_sink hx hn C hr hk n 0 1 S (by omega) (by omega) hs ⟨eqx_rf, hd_0 hh x, fun _ => rfl, hb, Or.inl rfl⟩

/-- the first one is taken out -/
def htak (S0 S : Nat → Int → Int) (n : Nat) : Prop := eqx [16, 17] S0 S ∧ S 17 0 = n ∧ hp (S 16) n ∧ (∀ v, ct (S 16) v n + (if S0 16 0 = v then 1 else 0) = ct (S0 16) v (n + 1)) ∧ ∀ i : Int, 0 ≤ i → i < n → r62 (S 16 i)
theorem htak_of {S0 S : Nat → Int → Int} {n : Nat} (h : hsnk (us S0 17 0 n) S (S0 16 n) n) : htak S0 S n := by
  obtain ⟨h1, h2, h3, h4⟩ := h
  refine ⟨fun k hk => ?_, ?_, h2, fun v => ?_, h4⟩
  · simp only [List.mem_cons, List.not_mem_nil, or_false, not_or] at hk
    rw [h1 k (by simp [hk.1]), us_n hk.2]
  · rw [h1 17 (by decide), us_s, up_s]
  · rw [h3 v, us_n (by decide), ct_s]
    by_cases e : n = 0
    · subst e
      simp [ct_0]
    · rw [ct_up v (by omega) n (by omega)]
      omega

set_option maxRecDepth 100000 in
set_option maxHeartbeats 4000000 in
theorem m_H_takeFirst {l : Launch} {D : va_G} {a : Nat → Nat} {ki kz kl kq : ClassId} {S : Nat → Int → Int} {n : Nat} (hs : S 17 0 = n + 1) (hn : n < 1458) (hh : hp (S 16) (n + 1)) (hb : ∀ i : Int, 0 ≤ i → i < n + 1 → r62 (S 16 i)) : MX l D a ki kz kl kq y_H_takeFirst b_H_takeFirst 3 (some .long) rm_H_takeFirst [.ref (a 17)] S (pL fun r S' => r = S 16 0 ∧ htak S S' n) := by
  refine MM.go b_H_takeFirst 3 (some .long) "NextPaths$PathHeap" [(0, .ref (a 17))] (by decide) rfl rfl (Nat.le_of_ble_eq_true rfl) ?_
  intro p e s m args below meth c C hr hk
  refine g_aload_n C d_H_takeFirst_0 rfl rfl ?_
  refine g_get C 17 1 i_H wX_17 rfl (by decide) k_H_15 rfl rfl d_H_takeFirst_1 rfl ?_
  refine g_if_gt (tgt := 11) C d_H_takeFirst_4 (by decide) rfl (by omega) (fun h4 => ?_) (fun h4 => ?_)
  · refine g_aload_n C d_H_takeFirst_11 rfl rfl ?_
    refine g_get C 17 0 i_H wX_17 rfl (by decide) k_H_9 rfl rfl d_H_takeFirst_12 rfl ?_
    refine g_iconst (z := 0) C d_H_takeFirst_15 rfl rfl ?_
    refine g_lald C 18 2 wX_18 rfl (by omega) (by omega) (by decide) d_H_takeFirst_16 rfl ?_
    refine g_nml (fun f e_f => ?_)
    refine g_lstore_n (lv' := [(1, .long (lI f)), (0, .ref (a 17))]) C d_H_takeFirst_17 (by decide) rfl rfl ?_
    refine g_aload_n C d_H_takeFirst_18 rfl rfl ?_
    refine g_dup C d_H_takeFirst_19 rfl rfl ?_
    refine g_get C 17 1 i_H wX_17 rfl (by decide) k_H_15 rfl rfl d_H_takeFirst_20 rfl ?_
    refine g_iconst (z := 1) C d_H_takeFirst_23 rfl rfl ?_
    refine g_isub (z := (n : Int)) C d_H_takeFirst_24 (by omega) rfl ?_
    refine g_put (ty := .int) C 17 1 ty_H i_H ty_H_ok n_H wX_17 rfl (by decide) k_H_15 rfl rfl (by decide +kernel) rfl rfl (Nat.le_of_ble_eq_true rfl) wX_p17_1 d_H_takeFirst_25 rfl ?_
    refine g_aload_n C d_H_takeFirst_28 rfl rfl ?_
    refine g_aload_n C d_H_takeFirst_29 rfl rfl ?_
    refine g_get C 17 0 i_H wX_17 rfl (by decide) k_H_9 rfl rfl d_H_takeFirst_30 rfl ?_
    refine g_aload_n C d_H_takeFirst_33 rfl rfl ?_
    refine g_get C 17 1 i_H wX_17 rfl (by decide) k_H_15 rfl rfl d_H_takeFirst_34 rfl ?_
    refine g_v (z' := (n : Int)) rfl ?_
    refine g_lald C 18 2 wX_18 rfl (by omega) (by omega) (by decide) d_H_takeFirst_37 rfl ?_
    refine g_vl (z' := S 16 n) rfl ?_
    refine g_runV (wX_fix a ki kz kl kq) rfl (rn_V C (m_H_sinkFromTop (n := n) (hb n (by omega) (by omega)) (by rw [us_s, up_s]) (by omega) (by rw [us_n (by decide)]; exact hh) (by rw [us_n (by decide)]; exact fun i i0 i1 => hb i i0 (by omega))) 17 1 wX_17 rfl rfl kc_H_sinkFromTop k_H_21 ki_H_sinkFromTop kx_H_sinkFromTop kn_H hy_H_sinkFromTop ⟨rfl, rfl⟩ ⟨by decide, by decide⟩ ⟨Nat.le_refl _, Nat.le_refl _⟩ rfl rfl (Nat.le_of_ble_eq_true rfl) d_H_takeFirst_38) (fun S' hp => ?_)
    refine g_lload_n C d_H_takeFirst_41 rfl rfl ?_
    refine g_lret C hr hk d_H_takeFirst_42 ⟨_, rfl, ?_⟩
    exact ⟨e_f, htak_of hp⟩
  · exact absurd h4 (by omega)

