/-! the reference: apart -/
/-- the bits of several paths together -/
def ubs (f : List Int → List Int) : List (List Int) → Nat
  | [] => 0
  | P :: u => ubs f u ||| bs (f P)
theorem ubs_tb {f : List Int → List Int} : ∀ (u : List (List Int)) (j : Nat), (∀ Q, Q ∈ u → ∀ k, k ∈ f Q → 0 ≤ k) → ((ubs f u).testBit j = true ↔ ∃ Q, Q ∈ u ∧ (j : Int) ∈ f Q)
  | [], j, _ => by simp [ubs]
  | P :: u, j, h => by
    simp only [ubs, Nat.testBit_or, Bool.or_eq_true, List.mem_cons]
    rw [ubs_tb u j (fun Q hQ => h Q (List.mem_cons_of_mem _ hQ)), bs_tb (f P) j (h P List.mem_cons_self)]
    constructor
    · rintro (⟨Q, q1, q2⟩ | q)
      · exact ⟨Q, Or.inr q1, q2⟩
      · exact ⟨P, Or.inl rfl, q⟩
    · rintro ⟨Q, rfl | q1, q2⟩
      · exact Or.inr q2
      · exact Or.inl ⟨Q, q1, q2⟩
theorem ubs_lt {f : List Int → List Int} {m : Nat} : ∀ (u : List (List Int)), (∀ Q, Q ∈ u → ∀ k, k ∈ f Q → 0 ≤ k ∧ k < m) → ubs f u < 2 ^ m
  | [], _ => by simp [ubs]; exact Nat.pow_pos (by omega)
  | P :: u, h => by
    simp only [ubs]
    exact Nat.or_lt_two_pow (ubs_lt u (fun Q hQ => h Q (List.mem_cons_of_mem _ hQ))) (bs_lt _ (h P List.mem_cons_self))
/-- nothing shared -/
theorem ubs_and {f : List Int → List Int} {u : List (List Int)} {P : List Int} (hP : ∀ k, k ∈ P → 0 ≤ k) (hu : ∀ Q, Q ∈ u → ∀ k, k ∈ f Q → 0 ≤ k) : bs P &&& ubs f u = 0 ↔ ∀ Q, Q ∈ u → da (f Q) P := by
  constructor
  · intro h Q hQ k hk hkP
    have h0 := hP k hkP
    have h1 := (bs_tb P k.toNat hP).mpr (by rw [show ((k.toNat : Nat) : Int) = k by omega]; exact hkP)
    have h2 := (ubs_tb u k.toNat hu).mpr ⟨Q, hQ, by rw [show ((k.toNat : Nat) : Int) = k by omega]; exact hk⟩
    have h3 : (bs P &&& ubs f u).testBit k.toNat = true := by rw [Nat.testBit_and, h1, h2]; rfl
    rw [h] at h3
    simp at h3
  · intro h
    apply Nat.eq_of_testBit_eq
    intro i
    rw [Nat.testBit_and, Nat.zero_testBit]
    cases h1 : (bs P).testBit i with
    | false => rfl
    | true =>
      cases h2 : (ubs f u).testBit i with
      | false => rfl
      | true =>
        obtain ⟨Q, q1, q2⟩ := (ubs_tb u i hu).mp h2
        exact absurd ((bs_tb P i hP).mp h1) (h Q q1 _ q2)
noncomputable def cfN (T : Int → Int) (y : Int) (P : List Int) (u : List (List Int)) : Bool := !(cb (∀ R, R ∈ u → ap T y R P))
theorem cfN_f {T : Int → Int} {y : Int} (P : List Int) (u : List (List Int)) : cfN T y P u = false ↔ ∀ R, R ∈ u → ap T y R P := by
  unfold cfN
  rw [Bool.not_eq_false', cb_t]
/-- the numbers of the arcs and nodes of the paths of R -/
def okR (T : Int → Int) (R : List (List Int)) : Prop := ∀ P, P ∈ R → (∀ k, k ∈ P → 0 ≤ k ∧ k < (20 : Nat)) ∧ ∀ k, k ∈ inn T P → 0 ≤ k ∧ k < (8 : Nat)
theorem okR_bs {T : Int → Int} {R : List (List Int)} (h : okR T R) {P : List Int} (hP : P ∈ R) : bs P < 2 ^ 20 ∧ bs (inn T P) < 2 ^ 8 := ⟨bs_lt _ (h P hP).1, bs_lt _ (h P hP).2⟩
theorem okR_ub {T : Int → Int} {R u : List (List Int)} (h : okR T R) (hu : ∀ Q, Q ∈ u → Q ∈ R) : ubs id u < 2 ^ 20 ∧ ubs (inn T) u < 2 ^ 8 := ⟨ubs_lt (f := id) _ (fun Q hQ => (h Q (hu Q hQ)).1), ubs_lt _ (fun Q hQ => (h Q (hu Q hQ)).2)⟩
theorem cf_t {T : Int → Int} {y : Int} {R u : List (List Int)} {P : List Int} (h : okR T R) (hu : ∀ Q, Q ∈ u → Q ∈ R) (hP : P ∈ R) : cfN T y P u = false ↔ (bs P &&& ubs id u = 0 ∧ (y = 1 → bs (inn T P) &&& ubs (inn T) u = 0)) := by
  rw [cfN_f, ubs_and (f := id) (fun k hk => ((h P hP).1 k hk).1) (fun Q hQ k hk => ((h Q (hu Q hQ)).1 k hk).1), ubs_and (f := inn T) (fun k hk => ((h P hP).2 k hk).1) (fun Q hQ k hk => ((h Q (hu Q hQ)).2 k hk).1)]
  constructor
  · exact fun q => ⟨fun Q hQ => (q Q hQ).1, fun e Q hQ => (q Q hQ).2 e⟩
  · exact fun q Q hQ => ⟨q.1 Q hQ, fun e => q.2 e Q hQ⟩
theorem se_cut {w : List Int → Int} {cf : List Int → List (List Int) → Bool} {P : List Int} {L : List (List Int)} {c : Nat} {s : Int} {u : List (List Int)} {best : Int} (h : best ≠ -1) (h2 : best ≤ s + c * w P) : se w cf (P :: L) c s u best = best := by
  show (if best ≠ -1 ∧ best ≤ s + c * w P then best else _) = best
  rw [if_pos ⟨h, h2⟩]
theorem se_nx {w : List Int → Int} {cf : List Int → List (List Int) → Bool} {P : List Int} {L : List (List Int)} {c : Nat} {s : Int} {u : List (List Int)} {best : Int} (h : ¬ (best ≠ -1 ∧ best ≤ s + c * w P)) (h2 : cf P u = true) : se w cf (P :: L) c s u best = se w cf L c s u best := by
  show (if best ≠ -1 ∧ best ≤ s + c * w P then best else if cf P u = true then se w cf L c s u best else _) = _
  rw [if_neg h, if_pos h2]
theorem se_on {w : List Int → Int} {cf : List Int → List (List Int) → Bool} {P : List Int} {L : List (List Int)} {c : Nat} {s : Int} {u : List (List Int)} {best : Int} (h : ¬ (best ≠ -1 ∧ best ≤ s + c * w P)) (h2 : cf P u = false) (h3 : c = 1) : se w cf (P :: L) c s u best = se w cf L c s u (s + w P) := by
  show (if best ≠ -1 ∧ best ≤ s + c * w P then best else if cf P u = true then se w cf L c s u best else if c = 1 then se w cf L c s u (s + w P) else _) = _
  rw [if_neg h, if_neg (by rw [h2]; simp), if_pos h3]
theorem se_go {w : List Int → Int} {cf : List Int → List (List Int) → Bool} {P : List Int} {L : List (List Int)} {c : Nat} {s : Int} {u : List (List Int)} {best : Int} (h : ¬ (best ≠ -1 ∧ best ≤ s + c * w P)) (h2 : cf P u = false) (h3 : c ≠ 1) : se w cf (P :: L) c s u best = se w cf L c s u (se w cf L (c - 1) (s + w P) (P :: u) best) := by
  show (if best ≠ -1 ∧ best ≤ s + c * w P then best else if cf P u = true then se w cf L c s u best else if c = 1 then se w cf L c s u (s + w P) else se w cf L c s u (se w cf L (c - 1) (s + w P) (P :: u) best)) = _
  rw [if_neg h, if_neg (by rw [h2]; simp), if_neg h3]
theorem drop_at {R : List (List Int)} {p : Nat} (h : p < R.length) : R.drop p = R.getD p [] :: R.drop (p + 1) := by
  rw [List.drop_eq_getElem_cons h]
  simp [h]
/-- the rows of level d -/
def AV (S : Nat → Int → Int) (d p : Nat) (s : Int) (x y : Nat) : Prop := S 24 d = p ∧ S 25 d = s ∧ S 26 d = x ∧ S 27 d = y
/-- only the rows from level d on have changed -/
def AFR (S S' : Nat → Int → Int) (d : Nat) : Prop := eqx [24, 25, 26, 27] S S' ∧ ∀ x : Int, x < d → S' 24 x = S 24 x ∧ S' 25 x = S 25 x ∧ S' 26 x = S 26 x ∧ S' 27 x = S 27 x
theorem AFR_rf {S : Nat → Int → Int} {d : Nat} : AFR S S d := ⟨eqx_rf, fun x _ => ⟨rfl, rfl, rfl, rfl⟩⟩
theorem AFR_tr {S S1 S2 : Nat → Int → Int} {d d' : Nat} (h : AFR S S1 d) (h2 : AFR S1 S2 d') (hd : d ≤ d') : AFR S S2 d := ⟨eqx_tr h.1 h2.1, fun x hx => by
  obtain ⟨a1, a2, a3, a4⟩ := h.2 x hx
  obtain ⟨b1, b2, b3, b4⟩ := h2.2 x (by omega)
  exact ⟨b1.trans a1, b2.trans a2, b3.trans a3, b4.trans a4⟩⟩
theorem AFR_up {S : Nat → Int → Int} {d : Nat} {v : Int} : AFR S (us S 24 (d : Int) v) d := ⟨eqx_us eqx_rf (by decide), fun x hx => ⟨by rw [us_s, up_n (by omega)], by rw [us_n (by decide)], by rw [us_n (by decide)], by rw [us_n (by decide)]⟩⟩
theorem AV_up {S : Nat → Int → Int} {d p : Nat} {s : Int} {x y : Nat} (h : AV S d p s x y) : AV (us S 24 (d : Int) ((p : Int) + 1)) d (p + 1) s x y := ⟨by rw [us_s, up_s]; omega, by rw [us_n (by decide)]; exact h.2.1, by rw [us_n (by decide)]; exact h.2.2.1, by rw [us_n (by decide)]; exact h.2.2.2⟩
def dn4 (S : Nat → Int → Int) (d : Int) (s x y p : Int) : Nat → Int → Int := us (us (us (us S 25 d s) 26 d x) 27 d y) 24 d p
theorem dn4_AFR {S : Nat → Int → Int} {d : Nat} {s x y p : Int} : AFR S (dn4 S ((d : Int) + 1) s x y p) (d + 1) := by
  refine ⟨eqx_us (eqx_us (eqx_us (eqx_us eqx_rf (by decide)) (by decide)) (by decide)) (by decide), fun z hz => ?_⟩
  unfold dn4
  refine ⟨?_, ?_, ?_, ?_⟩
  · rw [us_s, up_n (by omega), us_n (by decide), us_n (by decide), us_n (by decide)]
  · rw [us_n (by decide), us_n (by decide), us_n (by decide), us_s, up_n (by omega)]
  · rw [us_n (by decide), us_n (by decide), us_s, up_n (by omega), us_n (by decide)]
  · rw [us_n (by decide), us_s, up_n (by omega), us_n (by decide), us_n (by decide)]
theorem dn4_AV {S : Nat → Int → Int} {d p : Nat} {s : Int} {x y : Nat} : AV (dn4 S ((d : Int) + 1) s x y ((p : Int) + 1)) (d + 1) (p + 1) s x y := by
  unfold dn4 AV
  refine ⟨?_, ?_, ?_, ?_⟩
  · rw [us_s, show ((d + 1 : Nat) : Int) = (d : Int) + 1 by omega, up_s]; omega
  · rw [us_n (by decide), us_n (by decide), us_n (by decide), us_s, show ((d + 1 : Nat) : Int) = (d : Int) + 1 by omega, up_s]
  · rw [us_n (by decide), us_n (by decide), us_s, show ((d + 1 : Nat) : Int) = (d : Int) + 1 by omega, up_s]
  · rw [us_n (by decide), us_s, show ((d + 1 : Nat) : Int) = (d : Int) + 1 by omega, up_s]
/-- what the search reads -/
def KR (S : Nat → Int → Int) (W T : Int → Int) (R : List (List Int)) : Prop := S 7 0 = R.length ∧ ∀ i : Nat, i < R.length → S 8 i = wp W (R.getD i []) ∧ S 12 i = (bs (R.getD i []) : Nat) ∧ S 13 i = (bs (inn T (R.getD i [])) : Nat)
theorem KR_eq {S S' : Nat → Int → Int} {W T : Int → Int} {R : List (List Int)} (h : eqx [24, 25, 26, 27] S S') (g : KR S W T R) : KR S' W T R := by
  unfold KR at *
  rw [h 7 (by decide), h 8 (by decide), h 12 (by decide), h 13 (by decide)]
  exact g

set_option maxRecDepth 100000 in
set_option maxHeartbeats 4000000 in
theorem ap_back {l : Launch} {D : va_G} {a : Nat → Nat} {ki kz kl kq : ClassId} {p : Program} {e : Env} {s : State} {m : MethodId} {args : Array Value} {below : List Frame} {meth : Method} {c : Code} {S0 : Nat → Int → Int} {Q : State → Prop} {A b y : Int} {n : Nat} {W T : Int → Int} {R : List (List Int)} {S : Nat → Int → Int} {t : Int} {d k : Nat} (C : CX p s m args c b_M_apart 9 "NextPathsModel" TT D cls (tyz ki kz kl kq)) (hd : d < 5) (h24 : S 24 (d : Int) = k) (hc : GG p l e rm_M_apart s m args below meth c D cls (adr (wY a ki kz kl kq S0)) 9 0 0 Q (wY a ki kz kl kq) (us S 24 (d : Int) ((k : Int) + 1)) [(5, .int (iI t)), (6, .int (iI (d : Int))), (0, .ref (a 0)), (1, .int (iI A)), (2, .int (iI b)), (3, .int (iI (n : Int))), (4, .int (iI y))] 85 []) : GG p l e rm_M_apart s m args below meth c D cls (adr (wY a ki kz kl kq S0)) 9 0 0 Q (wY a ki kz kl kq) S [(5, .int (iI t)), (6, .int (iI ((d : Int) + 1))), (0, .ref (a 0)), (1, .int (iI A)), (2, .int (iI b)), (3, .int (iI (n : Int))), (4, .int (iI y))] 151 [] := by
  obtain ⟨d2, e_d2⟩ : ∃ z : Int, z = ((d : Int) + 1) + (-1) := ⟨_, rfl⟩
  refine g_iinc (q := 1) (z := d2) (lv' := [(6, .int (iI d2)), (5, .int (iI t)), (0, .ref (a 0)), (1, .int (iI A)), (2, .int (iI b)), (3, .int (iI (n : Int))), (4, .int (iI y))]) C d_M_apart_151 rfl e_d2.symm (by decide) rfl rfl ?_
  refine g_iload C d_M_apart_154 rfl rfl ?_
  refine g_if_lt (tgt := 356) C d_M_apart_156 (by decide) rfl (by omega) (fun h156 => ?_) (fun h156 => ?_)
  · exact absurd h156 (by omega)
  · refine g_aload_n C d_M_apart_159 rfl rfl ?_
    refine g_get C 0 24 i_M wY_0 rfl (by decide) k_M_57 rfl rfl d_M_apart_160 rfl ?_
    refine g_iload C d_M_apart_163 rfl rfl ?_
    refine g_dup2 C d_M_apart_165 rfl rfl rfl ?_
    refine g_iald C 16 0 wY_16 rfl (by omega) (by omega) (by decide) d_M_apart_166 rfl ?_
    refine g_v (z' := (k : Int)) (by rw [show d2 = (d : Int) by omega]; exact h24) ?_
    refine g_iconst (z := 1) C d_M_apart_167 rfl rfl ?_
    refine g_iadd C d_M_apart_168 rfl rfl ?_
    refine g_iast C 16 0 wY_16 rfl (by omega) (by omega) (by decide) wY_s16 d_M_apart_169 rfl ?_
    refine g_goto (tgt := 356) C d_M_apart_170 (by decide) ?_
    refine g_goto (tgt := 85) C d_M_apart_356 (by decide) ?_
    refine GG.lvs (lv' := [(5, .int (iI t)), (6, .int (iI (d : Int))), (0, .ref (a 0)), (1, .int (iI A)), (2, .int (iI b)), (3, .int (iI (n : Int))), (4, .int (iI y))]) (by rw [show d2 = (d : Int) by omega]; simp [lk]) ?_
    rw [show d2 = (d : Int) by omega]
    exact hc

set_option maxRecDepth 100000 in
set_option maxHeartbeats 4000000 in
theorem lv_apart {l : Launch} {D : va_G} {a : Nat → Nat} {ki kz kl kq : ClassId} {p : Program} {e : Env} {s : State} {m : MethodId} {args : Array Value} {below : List Frame} {meth : Method} {c : Code} {S0 : Nat → Int → Int} {Q : State → Prop} {A b y : Int} {n : Nat} {W T : Int → Int} {R : List (List Int)} (hn5 : n ≤ 5) (hy1 : 0 ≤ y ∧ y ≤ 1) (hRl : R.length ≤ 1458) (hR : okR T R) (hW : ∀ P, P ∈ R → 0 ≤ wp W P ∧ wp W P ≤ 7000) (C : CX p s m args c b_M_apart 9 "NextPathsModel" TT D cls (tyz ki kz kl kq)) : ∀ (c0 : Nat), 1 ≤ c0 → ∀ (d : Nat), d + c0 = n → ∀ (j k : Nat) (S : Nat → Int → Int) (t s0 : Int) (u : List (List Int)), k ≤ R.length → R.length ≤ k + j → AV S d k s0 (ubs id u) (ubs (inn T) u) → (-1 ≤ t ∧ t ≤ 35000) → (0 ≤ s0 ∧ s0 ≤ 7000 * d) → (∀ Q, Q ∈ u → Q ∈ R) → KR S W T R → (∀ (S' : Nat → Int → Int), AFR S S' d → ∀ t' : Int, t' = se (wp W) (cfN T y) (R.drop k) c0 s0 u t → (-1 ≤ t' ∧ t' ≤ 35000) → GG p l e rm_M_apart s m args below meth c D cls (adr (wY a ki kz kl kq S0)) 9 0 0 Q (wY a ki kz kl kq) S' [(5, .int (iI t')), (6, .int (iI (d : Int))), (0, .ref (a 0)), (1, .int (iI A)), (2, .int (iI b)), (3, .int (iI (n : Int))), (4, .int (iI y))] 151 []) → GG p l e rm_M_apart s m args below meth c D cls (adr (wY a ki kz kl kq S0)) 9 0 0 Q (wY a ki kz kl kq) S [(5, .int (iI t)), (6, .int (iI (d : Int))), (0, .ref (a 0)), (1, .int (iI A)), (2, .int (iI b)), (3, .int (iI (n : Int))), (4, .int (iI y))] 85 [] := by
  intro c0
  induction c0 using Nat.strongRecOn with
  | ind c0 ihc =>
  intro hc1 d hdn j
  induction j with
  | zero =>
    intro k S t s0 u hk1 hk2 hV ht hs0 hu hK hc
    have hd5 : d < 5 := by omega
    refine g_iload C d_M_apart_85 rfl rfl ?_
    refine g_if_lt (tgt := 359) C d_M_apart_87 (by decide) rfl (by omega) (fun h87 => ?_) (fun h87 => ?_)
    · exact absurd h87 (by omega)
    · refine g_aload_n C d_M_apart_90 rfl rfl ?_
      refine g_get C 0 24 i_M wY_0 rfl (by decide) k_M_57 rfl rfl d_M_apart_91 rfl ?_
      refine g_iload C d_M_apart_94 rfl rfl ?_
      refine g_iald C 16 0 wY_16 rfl (by omega) (by omega) (by decide) d_M_apart_96 rfl ?_
      refine g_v (z' := (k : Int)) hV.1 ?_
      refine g_istore (lv' := [(7, .int (iI (k : Int))), (5, .int (iI t)), (6, .int (iI (d : Int))), (0, .ref (a 0)), (1, .int (iI A)), (2, .int (iI b)), (3, .int (iI (n : Int))), (4, .int (iI y))]) C d_M_apart_97 (by decide) rfl rfl ?_
      refine g_iload C d_M_apart_99 rfl rfl ?_
      refine g_aload_n C d_M_apart_101 rfl rfl ?_
      refine g_get C 0 7 i_M wY_0 rfl (by decide) k_M_98 rfl rfl d_M_apart_102 rfl ?_
      refine g_v (z' := (R.length : Int)) hK.1 ?_
      refine g_icmp_eq (tgt := 139) C d_M_apart_105 (by decide) rfl (by omega) (by omega) (fun h105 => ?_) (fun h105 => ?_)
      · refine g_iconst (z := 1) C d_M_apart_139 rfl rfl ?_
        refine g_goto (tgt := 144) C d_M_apart_140 (by decide) ?_
        refine g_nm (fun e8 e_e8 => ?_)
        refine g_istore (lv' := [(8, .int (iI e8)), (7, .int (iI (k : Int))), (5, .int (iI t)), (6, .int (iI (d : Int))), (0, .ref (a 0)), (1, .int (iI A)), (2, .int (iI b)), (3, .int (iI (n : Int))), (4, .int (iI y))]) C d_M_apart_144 (by decide) rfl rfl ?_
        refine g_iload C d_M_apart_146 rfl rfl ?_
        refine g_if_eq (tgt := 173) C d_M_apart_148 (by decide) rfl (by omega) (fun h148 => ?_) (fun h148 => ?_)
        · exact absurd h148 (by omega)
        · refine GG.lvs (lv' := [(5, .int (iI t)), (6, .int (iI (d : Int))), (0, .ref (a 0)), (1, .int (iI A)), (2, .int (iI b)), (3, .int (iI (n : Int))), (4, .int (iI y))]) (by simp [lk]) ?_
          refine hc S AFR_rf t ?_ ht
          first
            | (have hkl : k = R.length := by omega
               rw [hkl, List.drop_length]; rfl)
            | (rw [hdr]; exact (se_cut h111 h136).symm)
      · exact absurd h105 (by omega)
  | succ j ih =>
    intro k S t s0 u hk1 hk2 hV ht hs0 hu hK hc
    have hd5 : d < 5 := by omega
    refine g_iload C d_M_apart_85 rfl rfl ?_
    refine g_if_lt (tgt := 359) C d_M_apart_87 (by decide) rfl (by omega) (fun h87 => ?_) (fun h87 => ?_)
    · exact absurd h87 (by omega)
    · refine g_aload_n C d_M_apart_90 rfl rfl ?_
      refine g_get C 0 24 i_M wY_0 rfl (by decide) k_M_57 rfl rfl d_M_apart_91 rfl ?_
      refine g_iload C d_M_apart_94 rfl rfl ?_
      refine g_iald C 16 0 wY_16 rfl (by omega) (by omega) (by decide) d_M_apart_96 rfl ?_
      refine g_v (z' := (k : Int)) hV.1 ?_
      refine g_istore (lv' := [(7, .int (iI (k : Int))), (5, .int (iI t)), (6, .int (iI (d : Int))), (0, .ref (a 0)), (1, .int (iI A)), (2, .int (iI b)), (3, .int (iI (n : Int))), (4, .int (iI y))]) C d_M_apart_97 (by decide) rfl rfl ?_
      refine g_iload C d_M_apart_99 rfl rfl ?_
      refine g_aload_n C d_M_apart_101 rfl rfl ?_
      refine g_get C 0 7 i_M wY_0 rfl (by decide) k_M_98 rfl rfl d_M_apart_102 rfl ?_
      refine g_v (z' := (R.length : Int)) hK.1 ?_
      refine g_icmp_eq (tgt := 139) C d_M_apart_105 (by decide) rfl (by omega) (by omega) (fun h105 => ?_) (fun h105 => ?_)
      · refine g_iconst (z := 1) C d_M_apart_139 rfl rfl ?_
        refine g_goto (tgt := 144) C d_M_apart_140 (by decide) ?_
        refine g_nm (fun e8 e_e8 => ?_)
        refine g_istore (lv' := [(8, .int (iI e8)), (7, .int (iI (k : Int))), (5, .int (iI t)), (6, .int (iI (d : Int))), (0, .ref (a 0)), (1, .int (iI A)), (2, .int (iI b)), (3, .int (iI (n : Int))), (4, .int (iI y))]) C d_M_apart_144 (by decide) rfl rfl ?_
        refine g_iload C d_M_apart_146 rfl rfl ?_
        refine g_if_eq (tgt := 173) C d_M_apart_148 (by decide) rfl (by omega) (fun h148 => ?_) (fun h148 => ?_)
        · exact absurd h148 (by omega)
        · refine GG.lvs (lv' := [(5, .int (iI t)), (6, .int (iI (d : Int))), (0, .ref (a 0)), (1, .int (iI A)), (2, .int (iI b)), (3, .int (iI (n : Int))), (4, .int (iI y))]) (by simp [lk]) ?_
          refine hc S AFR_rf t ?_ ht
          first
            | (have hkl : k = R.length := by omega
               rw [hkl, List.drop_length]; rfl)
            | (rw [hdr]; exact (se_cut h111 h136).symm)
      · have hkl : k < R.length := by omega
        have hPR : R.getD k [] ∈ R := by simp [hkl]
        obtain ⟨k1, k2, k3⟩ := hK.2 k hkl
        have hw0 := hW _ hPR
        have hcw : 0 ≤ (c0 : Int) * wp W (R.getD k []) ∧ (c0 : Int) * wp W (R.getD k []) ≤ 5 * 7000 := ⟨Int.mul_nonneg (by omega) hw0.1, Int.mul_le_mul (by omega) hw0.2 hw0.1 (by omega)⟩
        have hob := okR_bs hR hPR
        have hou := okR_ub hR hu
        have hb1 : bs (R.getD k []) &&& ubs id u < 2 ^ 20 := Nat.and_lt_two_pow _ hou.1
        have hb2 : bs (inn T (R.getD k [])) &&& ubs (inn T) u < 2 ^ 8 := Nat.and_lt_two_pow _ hou.2
        have hcft := cf_t (y := y) hR hu hPR
        have hdr := drop_at hkl
        refine g_iload C d_M_apart_108 rfl rfl ?_
        refine g_iconst (z := (-1)) C d_M_apart_110 rfl rfl ?_
        refine g_icmp_eq (tgt := 143) C d_M_apart_111 (by decide) rfl (by omega) (by omega) (fun h111 => ?_) (fun h111 => ?_)
        · refine g_iconst (z := 0) C d_M_apart_143 rfl rfl ?_
          refine g_nm (fun e8 e_e8 => ?_)
          refine g_istore (lv' := [(8, .int (iI e8)), (7, .int (iI (k : Int))), (5, .int (iI t)), (6, .int (iI (d : Int))), (0, .ref (a 0)), (1, .int (iI A)), (2, .int (iI b)), (3, .int (iI (n : Int))), (4, .int (iI y))]) C d_M_apart_144 (by decide) rfl rfl ?_
          refine g_iload C d_M_apart_146 rfl rfl ?_
          refine g_if_eq (tgt := 173) C d_M_apart_148 (by decide) rfl (by omega) (fun h148 => ?_) (fun h148 => ?_)
          · have hns : ¬ (t ≠ -1 ∧ t ≤ s0 + (c0 : Int) * wp W (R.getD k [])) := by
              first
                | exact fun q => q.1 h111
                | exact fun q => absurd q.2 (Int.not_le.mpr h136)
            refine g_aload_n C d_M_apart_173 rfl rfl ?_
            refine g_get C 0 12 i_M wY_0 rfl (by decide) k_M_39 rfl rfl d_M_apart_174 rfl ?_
            refine g_iload C d_M_apart_177 rfl rfl ?_
            refine g_iald C 10 0 wY_10 rfl (by omega) (by omega) (by decide) d_M_apart_179 rfl ?_
            refine g_v (z' := ((bs (R.getD k []) : Nat) : Int)) k2 ?_
            refine g_aload_n C d_M_apart_180 rfl rfl ?_
            refine g_get C 0 26 i_M wY_0 rfl (by decide) k_M_63 rfl rfl d_M_apart_181 rfl ?_
            refine g_iload C d_M_apart_184 rfl rfl ?_
            refine g_iald C 18 0 wY_18 rfl (by omega) (by omega) (by decide) d_M_apart_186 rfl ?_
            refine g_v (z' := ((ubs id u : Nat) : Int)) hV.2.2.1 ?_
            refine g_iand (z := ((bs (R.getD k []) &&& ubs id u : Nat) : Int)) C d_M_apart_187 iand_n rfl ?_
            refine g_if_ne (tgt := 215) C d_M_apart_188 (by decide) rfl (by omega) (fun h188 => ?_) (fun h188 => ?_)
            · refine g_aload_n C d_M_apart_215 rfl rfl ?_
              refine g_get C 0 24 i_M wY_0 rfl (by decide) k_M_57 rfl rfl d_M_apart_216 rfl ?_
              refine g_iload C d_M_apart_219 rfl rfl ?_
              refine g_dup2 C d_M_apart_221 rfl rfl rfl ?_
              refine g_iald C 16 0 wY_16 rfl (by omega) (by omega) (by decide) d_M_apart_222 rfl ?_
              refine g_v (z' := (k : Int)) hV.1 ?_
              refine g_iconst (z := 1) C d_M_apart_223 rfl rfl ?_
              refine g_iadd C d_M_apart_224 rfl rfl ?_
              refine g_iast C 16 0 wY_16 rfl (by omega) (by omega) (by decide) wY_s16 d_M_apart_225 rfl ?_
              refine g_goto (tgt := 356) C d_M_apart_226 (by decide) ?_
              refine g_goto (tgt := 85) C d_M_apart_356 (by decide) ?_
              have hcf : cfN T y (R.getD k []) u = true := by
                cases hq : cfN T y (R.getD k []) u with
                | true => rfl
                | false =>
                  have hq2 := hcft.mp hq
                  first
                    | exact absurd (show ((bs (R.getD k []) &&& ubs id u : Nat) : Int) = 0 by rw [hq2.1]; rfl) h188
                    | exact absurd (show ((bs (inn T (R.getD k [])) &&& ubs (inn T) u : Nat) : Int) = 0 by rw [hq2.2 h194]; rfl) h212
              rw [hdr] at hc
              refine GG.lvs (lv' := [(5, .int (iI t)), (6, .int (iI (d : Int))), (0, .ref (a 0)), (1, .int (iI A)), (2, .int (iI b)), (3, .int (iI (n : Int))), (4, .int (iI y))]) (by simp [lk]) ?_
              refine ih (k + 1) _ t s0 u (by omega) (by omega) (AV_up hV) ht hs0 hu (KR_eq AFR_up.1 hK) (fun S' hA t' ht' hb' => ?_)
              exact hc S' (AFR_tr AFR_up hA (Nat.le_refl _)) t' (by rw [se_nx hns hcf]; exact ht') hb'
            · refine g_iload C d_M_apart_191 rfl rfl ?_
              refine g_iconst (z := 1) C d_M_apart_193 rfl rfl ?_
              refine g_icmp_ne (tgt := 229) C d_M_apart_194 (by decide) rfl (by omega) (by omega) (fun h194 => ?_) (fun h194 => ?_)
              · refine g_iload C d_M_apart_229 rfl rfl ?_
                refine g_iload_n C d_M_apart_231 rfl rfl ?_
                refine g_iconst (z := 1) C d_M_apart_232 rfl rfl ?_
                refine g_isub C d_M_apart_233 rfl rfl ?_
                refine g_icmp_ne (tgt := 268) C d_M_apart_234 (by decide) rfl (by omega) (by omega) (fun h234 => ?_) (fun h234 => ?_)
                · refine g_aload_n C d_M_apart_268 rfl rfl ?_
                  refine g_get C 0 25 i_M wY_0 rfl (by decide) k_M_60 rfl rfl d_M_apart_269 rfl ?_
                  refine g_iload C d_M_apart_272 rfl rfl ?_
                  refine g_iconst (z := 1) C d_M_apart_274 rfl rfl ?_
                  refine g_iadd C d_M_apart_275 rfl rfl ?_
                  refine g_aload_n C d_M_apart_276 rfl rfl ?_
                  refine g_get C 0 25 i_M wY_0 rfl (by decide) k_M_60 rfl rfl d_M_apart_277 rfl ?_
                  refine g_iload C d_M_apart_280 rfl rfl ?_
                  refine g_iald C 17 0 wY_17 rfl (by omega) (by omega) (by decide) d_M_apart_282 rfl ?_
                  refine g_v (z' := s0) hV.2.1 ?_
                  refine g_aload_n C d_M_apart_283 rfl rfl ?_
                  refine g_get C 0 8 i_M wY_0 rfl (by decide) k_M_26 rfl rfl d_M_apart_284 rfl ?_
                  refine g_iload C d_M_apart_287 rfl rfl ?_
                  refine g_iald C 6 0 wY_6 rfl (by omega) (by omega) (by decide) d_M_apart_289 rfl ?_
                  refine g_v (z' := (wp W (R.getD k []))) k1 ?_
                  refine g_iadd C d_M_apart_290 rfl rfl ?_
                  refine g_iast C 17 0 wY_17 rfl (by omega) (by omega) (by decide) wY_s17 d_M_apart_291 rfl ?_
                  refine g_aload_n C d_M_apart_292 rfl rfl ?_
                  refine g_get C 0 26 i_M wY_0 rfl (by decide) k_M_63 rfl rfl d_M_apart_293 rfl ?_
                  refine g_iload C d_M_apart_296 rfl rfl ?_
                  refine g_iconst (z := 1) C d_M_apart_298 rfl rfl ?_
                  refine g_iadd C d_M_apart_299 rfl rfl ?_
                  refine g_aload_n C d_M_apart_300 rfl rfl ?_
                  refine g_get C 0 26 i_M wY_0 rfl (by decide) k_M_63 rfl rfl d_M_apart_301 rfl ?_
                  refine g_iload C d_M_apart_304 rfl rfl ?_
                  refine g_iald C 18 0 wY_18 rfl (by omega) (by omega) (by decide) d_M_apart_306 rfl ?_
                  refine g_v (z' := ((ubs id u : Nat) : Int)) hV.2.2.1 ?_
                  refine g_aload_n C d_M_apart_307 rfl rfl ?_
                  refine g_get C 0 12 i_M wY_0 rfl (by decide) k_M_39 rfl rfl d_M_apart_308 rfl ?_
                  refine g_iload C d_M_apart_311 rfl rfl ?_
                  refine g_iald C 10 0 wY_10 rfl (by omega) (by omega) (by decide) d_M_apart_313 rfl ?_
                  refine g_v (z' := ((bs (R.getD k []) : Nat) : Int)) k2 ?_
                  refine g_ior (z := ((ubs id u ||| bs (R.getD k []) : Nat) : Int)) C d_M_apart_314 ior_ok rfl ?_
                  refine g_iast C 18 0 wY_18 rfl (by omega) (by omega) (by decide) wY_s18 d_M_apart_315 rfl ?_
                  refine g_aload_n C d_M_apart_316 rfl rfl ?_
                  refine g_get C 0 27 i_M wY_0 rfl (by decide) k_M_66 rfl rfl d_M_apart_317 rfl ?_
                  refine g_iload C d_M_apart_320 rfl rfl ?_
                  refine g_iconst (z := 1) C d_M_apart_322 rfl rfl ?_
                  refine g_iadd C d_M_apart_323 rfl rfl ?_
                  refine g_aload_n C d_M_apart_324 rfl rfl ?_
                  refine g_get C 0 27 i_M wY_0 rfl (by decide) k_M_66 rfl rfl d_M_apart_325 rfl ?_
                  refine g_iload C d_M_apart_328 rfl rfl ?_
                  refine g_iald C 19 0 wY_19 rfl (by omega) (by omega) (by decide) d_M_apart_330 rfl ?_
                  refine g_v (z' := ((ubs (inn T) u : Nat) : Int)) hV.2.2.2 ?_
                  refine g_aload_n C d_M_apart_331 rfl rfl ?_
                  refine g_get C 0 13 i_M wY_0 rfl (by decide) k_M_42 rfl rfl d_M_apart_332 rfl ?_
                  refine g_iload C d_M_apart_335 rfl rfl ?_
                  refine g_iald C 11 0 wY_11 rfl (by omega) (by omega) (by decide) d_M_apart_337 rfl ?_
                  refine g_v (z' := ((bs (inn T (R.getD k [])) : Nat) : Int)) k3 ?_
                  refine g_ior (z := ((ubs (inn T) u ||| bs (inn T (R.getD k [])) : Nat) : Int)) C d_M_apart_338 ior_ok rfl ?_
                  refine g_iast C 19 0 wY_19 rfl (by omega) (by omega) (by decide) wY_s19 d_M_apart_339 rfl ?_
                  refine g_aload_n C d_M_apart_340 rfl rfl ?_
                  refine g_get C 0 24 i_M wY_0 rfl (by decide) k_M_57 rfl rfl d_M_apart_341 rfl ?_
                  refine g_iload C d_M_apart_344 rfl rfl ?_
                  refine g_iconst (z := 1) C d_M_apart_346 rfl rfl ?_
                  refine g_iadd C d_M_apart_347 rfl rfl ?_
                  refine g_iload C d_M_apart_348 rfl rfl ?_
                  refine g_iconst (z := 1) C d_M_apart_350 rfl rfl ?_
                  refine g_iadd C d_M_apart_351 rfl rfl ?_
                  refine g_iast C 16 0 wY_16 rfl (by omega) (by omega) (by decide) wY_s16 d_M_apart_352 rfl ?_
                  obtain ⟨d2, e_d2⟩ : ∃ z : Int, z = (d : Int) + 1 := ⟨_, rfl⟩
                  refine g_iinc (q := 3) (z := d2) (lv' := [(6, .int (iI d2)), (8, .int (iI e8)), (7, .int (iI (k : Int))), (5, .int (iI t)), (0, .ref (a 0)), (1, .int (iI A)), (2, .int (iI b)), (3, .int (iI (n : Int))), (4, .int (iI y))]) C d_M_apart_353 rfl e_d2.symm (by decide) rfl rfl ?_
                  refine g_goto (tgt := 85) C d_M_apart_356 (by decide) ?_
                  have hcf : cfN T y (R.getD k []) u = false := hcft.mpr ⟨by omega, fun hy1 => by first | exact absurd hy1 h194 | omega⟩
                  rw [hdr] at hc
                  have e4 : ((d + 1 : Nat) : Int) = (d : Int) + 1 := by omega
                  refine GG.lvs (lv' := [(5, .int (iI t)), (6, .int (iI ((d + 1 : Nat) : Int))), (0, .ref (a 0)), (1, .int (iI A)), (2, .int (iI b)), (3, .int (iI (n : Int))), (4, .int (iI y))]) (by rw [e4, show d2 = (d : Int) + 1 by omega]; simp [lk]) ?_
                  refine ihc (c0 - 1) (by omega) (by omega) (d + 1) (by omega) R.length (k + 1) _ t (s0 + wp W (R.getD k [])) (R.getD k [] :: u) (by omega) (by omega) dn4_AV ht (by omega) (fun Q hQ => ?_) (KR_eq dn4_AFR.1 hK) (fun S1 hA1 t1 ht1 hb1 => ?_)
                  · rcases List.mem_cons.mp hQ with rfl | hQ
                    · exact hPR
                    · exact hu Q hQ
                  rw [e4]
                  have hA2 := AFR_tr dn4_AFR hA1 (Nat.le_refl _)
                  obtain ⟨v1, v2, v3, v4⟩ := hA2.2 d (by omega)
                  have hV1 : AV S1 d k s0 (ubs id u) (ubs (inn T) u) := ⟨v1.trans hV.1, v2.trans hV.2.1, v3.trans hV.2.2.1, v4.trans hV.2.2.2⟩
                  refine ap_back (W := W) (T := T) (R := R) (k := k) C hd5 hV1.1 ?_
                  refine ih (k + 1) _ t1 s0 u (by omega) (by omega) (AV_up hV1) hb1 hs0 hu (KR_eq AFR_up.1 (KR_eq hA2.1 hK)) (fun S' hA t' ht' hb' => ?_)
                  refine hc S' (AFR_tr (AFR_tr ⟨hA2.1, fun x hx => hA2.2 x (by omega)⟩ AFR_up (Nat.le_refl _)) hA (Nat.le_refl _)) t' ?_ hb'
                  rw [se_go hns hcf (by omega), ← ht1]
                  exact ht'
                · refine g_aload_n C d_M_apart_237 rfl rfl ?_
                  refine g_get C 0 25 i_M wY_0 rfl (by decide) k_M_60 rfl rfl d_M_apart_238 rfl ?_
                  refine g_iload C d_M_apart_241 rfl rfl ?_
                  refine g_iald C 17 0 wY_17 rfl (by omega) (by omega) (by decide) d_M_apart_243 rfl ?_
                  refine g_v (z' := s0) hV.2.1 ?_
                  refine g_aload_n C d_M_apart_244 rfl rfl ?_
                  refine g_get C 0 8 i_M wY_0 rfl (by decide) k_M_26 rfl rfl d_M_apart_245 rfl ?_
                  refine g_iload C d_M_apart_248 rfl rfl ?_
                  refine g_iald C 6 0 wY_6 rfl (by omega) (by omega) (by decide) d_M_apart_250 rfl ?_
                  refine g_v (z' := (wp W (R.getD k []))) k1 ?_
                  refine g_iadd C d_M_apart_251 rfl rfl ?_
                  refine g_nm (fun t2 e_t2 => ?_)
                  refine g_istore (lv' := [(5, .int (iI t2)), (8, .int (iI e8)), (7, .int (iI (k : Int))), (6, .int (iI (d : Int))), (0, .ref (a 0)), (1, .int (iI A)), (2, .int (iI b)), (3, .int (iI (n : Int))), (4, .int (iI y))]) C d_M_apart_252 (by decide) rfl rfl ?_
                  refine g_aload_n C d_M_apart_254 rfl rfl ?_
                  refine g_get C 0 24 i_M wY_0 rfl (by decide) k_M_57 rfl rfl d_M_apart_255 rfl ?_
                  refine g_iload C d_M_apart_258 rfl rfl ?_
                  refine g_dup2 C d_M_apart_260 rfl rfl rfl ?_
                  refine g_iald C 16 0 wY_16 rfl (by omega) (by omega) (by decide) d_M_apart_261 rfl ?_
                  refine g_v (z' := (k : Int)) hV.1 ?_
                  refine g_iconst (z := 1) C d_M_apart_262 rfl rfl ?_
                  refine g_iadd C d_M_apart_263 rfl rfl ?_
                  refine g_iast C 16 0 wY_16 rfl (by omega) (by omega) (by decide) wY_s16 d_M_apart_264 rfl ?_
                  refine g_goto (tgt := 356) C d_M_apart_265 (by decide) ?_
                  refine g_goto (tgt := 85) C d_M_apart_356 (by decide) ?_
                  have hcf : cfN T y (R.getD k []) u = false := hcft.mpr ⟨by omega, fun hy1 => by first | exact absurd hy1 h194 | omega⟩
                  rw [hdr] at hc
                  refine GG.lvs (lv' := [(5, .int (iI (s0 + wp W (R.getD k [])))), (6, .int (iI (d : Int))), (0, .ref (a 0)), (1, .int (iI A)), (2, .int (iI b)), (3, .int (iI (n : Int))), (4, .int (iI y))]) (by rw [e_t2]; simp [lk]) ?_
                  refine ih (k + 1) _ _ s0 u (by omega) (by omega) (AV_up hV) (by omega) hs0 hu (KR_eq AFR_up.1 hK) (fun S' hA t' ht' hb' => ?_)
                  exact hc S' (AFR_tr AFR_up hA (Nat.le_refl _)) t' (by rw [se_on hns hcf (by omega)]; exact ht') hb'
              · refine g_aload_n C d_M_apart_197 rfl rfl ?_
                refine g_get C 0 13 i_M wY_0 rfl (by decide) k_M_42 rfl rfl d_M_apart_198 rfl ?_
                refine g_iload C d_M_apart_201 rfl rfl ?_
                refine g_iald C 11 0 wY_11 rfl (by omega) (by omega) (by decide) d_M_apart_203 rfl ?_
                refine g_v (z' := ((bs (inn T (R.getD k [])) : Nat) : Int)) k3 ?_
                refine g_aload_n C d_M_apart_204 rfl rfl ?_
                refine g_get C 0 27 i_M wY_0 rfl (by decide) k_M_66 rfl rfl d_M_apart_205 rfl ?_
                refine g_iload C d_M_apart_208 rfl rfl ?_
                refine g_iald C 19 0 wY_19 rfl (by omega) (by omega) (by decide) d_M_apart_210 rfl ?_
                refine g_v (z' := ((ubs (inn T) u : Nat) : Int)) hV.2.2.2 ?_
                refine g_iand (z := ((bs (inn T (R.getD k [])) &&& ubs (inn T) u : Nat) : Int)) C d_M_apart_211 iand_n rfl ?_
                refine g_if_eq (tgt := 229) C d_M_apart_212 (by decide) rfl (by omega) (fun h212 => ?_) (fun h212 => ?_)
                · refine g_iload C d_M_apart_229 rfl rfl ?_
                  refine g_iload_n C d_M_apart_231 rfl rfl ?_
                  refine g_iconst (z := 1) C d_M_apart_232 rfl rfl ?_
                  refine g_isub C d_M_apart_233 rfl rfl ?_
                  refine g_icmp_ne (tgt := 268) C d_M_apart_234 (by decide) rfl (by omega) (by omega) (fun h234 => ?_) (fun h234 => ?_)
                  · refine g_aload_n C d_M_apart_268 rfl rfl ?_
                    refine g_get C 0 25 i_M wY_0 rfl (by decide) k_M_60 rfl rfl d_M_apart_269 rfl ?_
                    refine g_iload C d_M_apart_272 rfl rfl ?_
                    refine g_iconst (z := 1) C d_M_apart_274 rfl rfl ?_
                    refine g_iadd C d_M_apart_275 rfl rfl ?_
                    refine g_aload_n C d_M_apart_276 rfl rfl ?_
                    refine g_get C 0 25 i_M wY_0 rfl (by decide) k_M_60 rfl rfl d_M_apart_277 rfl ?_
                    refine g_iload C d_M_apart_280 rfl rfl ?_
                    refine g_iald C 17 0 wY_17 rfl (by omega) (by omega) (by decide) d_M_apart_282 rfl ?_
                    refine g_v (z' := s0) hV.2.1 ?_
                    refine g_aload_n C d_M_apart_283 rfl rfl ?_
                    refine g_get C 0 8 i_M wY_0 rfl (by decide) k_M_26 rfl rfl d_M_apart_284 rfl ?_
                    refine g_iload C d_M_apart_287 rfl rfl ?_
                    refine g_iald C 6 0 wY_6 rfl (by omega) (by omega) (by decide) d_M_apart_289 rfl ?_
                    refine g_v (z' := (wp W (R.getD k []))) k1 ?_
                    refine g_iadd C d_M_apart_290 rfl rfl ?_
                    refine g_iast C 17 0 wY_17 rfl (by omega) (by omega) (by decide) wY_s17 d_M_apart_291 rfl ?_
                    refine g_aload_n C d_M_apart_292 rfl rfl ?_
                    refine g_get C 0 26 i_M wY_0 rfl (by decide) k_M_63 rfl rfl d_M_apart_293 rfl ?_
                    refine g_iload C d_M_apart_296 rfl rfl ?_
                    refine g_iconst (z := 1) C d_M_apart_298 rfl rfl ?_
                    refine g_iadd C d_M_apart_299 rfl rfl ?_
                    refine g_aload_n C d_M_apart_300 rfl rfl ?_
                    refine g_get C 0 26 i_M wY_0 rfl (by decide) k_M_63 rfl rfl d_M_apart_301 rfl ?_
                    refine g_iload C d_M_apart_304 rfl rfl ?_
                    refine g_iald C 18 0 wY_18 rfl (by omega) (by omega) (by decide) d_M_apart_306 rfl ?_
                    refine g_v (z' := ((ubs id u : Nat) : Int)) hV.2.2.1 ?_
                    refine g_aload_n C d_M_apart_307 rfl rfl ?_
                    refine g_get C 0 12 i_M wY_0 rfl (by decide) k_M_39 rfl rfl d_M_apart_308 rfl ?_
                    refine g_iload C d_M_apart_311 rfl rfl ?_
                    refine g_iald C 10 0 wY_10 rfl (by omega) (by omega) (by decide) d_M_apart_313 rfl ?_
                    refine g_v (z' := ((bs (R.getD k []) : Nat) : Int)) k2 ?_
                    refine g_ior (z := ((ubs id u ||| bs (R.getD k []) : Nat) : Int)) C d_M_apart_314 ior_ok rfl ?_
                    refine g_iast C 18 0 wY_18 rfl (by omega) (by omega) (by decide) wY_s18 d_M_apart_315 rfl ?_
                    refine g_aload_n C d_M_apart_316 rfl rfl ?_
                    refine g_get C 0 27 i_M wY_0 rfl (by decide) k_M_66 rfl rfl d_M_apart_317 rfl ?_
                    refine g_iload C d_M_apart_320 rfl rfl ?_
                    refine g_iconst (z := 1) C d_M_apart_322 rfl rfl ?_
                    refine g_iadd C d_M_apart_323 rfl rfl ?_
                    refine g_aload_n C d_M_apart_324 rfl rfl ?_
                    refine g_get C 0 27 i_M wY_0 rfl (by decide) k_M_66 rfl rfl d_M_apart_325 rfl ?_
                    refine g_iload C d_M_apart_328 rfl rfl ?_
                    refine g_iald C 19 0 wY_19 rfl (by omega) (by omega) (by decide) d_M_apart_330 rfl ?_
                    refine g_v (z' := ((ubs (inn T) u : Nat) : Int)) hV.2.2.2 ?_
                    refine g_aload_n C d_M_apart_331 rfl rfl ?_
                    refine g_get C 0 13 i_M wY_0 rfl (by decide) k_M_42 rfl rfl d_M_apart_332 rfl ?_
                    refine g_iload C d_M_apart_335 rfl rfl ?_
                    refine g_iald C 11 0 wY_11 rfl (by omega) (by omega) (by decide) d_M_apart_337 rfl ?_
                    refine g_v (z' := ((bs (inn T (R.getD k [])) : Nat) : Int)) k3 ?_
                    refine g_ior (z := ((ubs (inn T) u ||| bs (inn T (R.getD k [])) : Nat) : Int)) C d_M_apart_338 ior_ok rfl ?_
                    refine g_iast C 19 0 wY_19 rfl (by omega) (by omega) (by decide) wY_s19 d_M_apart_339 rfl ?_
                    refine g_aload_n C d_M_apart_340 rfl rfl ?_
                    refine g_get C 0 24 i_M wY_0 rfl (by decide) k_M_57 rfl rfl d_M_apart_341 rfl ?_
                    refine g_iload C d_M_apart_344 rfl rfl ?_
                    refine g_iconst (z := 1) C d_M_apart_346 rfl rfl ?_
                    refine g_iadd C d_M_apart_347 rfl rfl ?_
                    refine g_iload C d_M_apart_348 rfl rfl ?_
                    refine g_iconst (z := 1) C d_M_apart_350 rfl rfl ?_
                    refine g_iadd C d_M_apart_351 rfl rfl ?_
                    refine g_iast C 16 0 wY_16 rfl (by omega) (by omega) (by decide) wY_s16 d_M_apart_352 rfl ?_
                    obtain ⟨d2, e_d2⟩ : ∃ z : Int, z = (d : Int) + 1 := ⟨_, rfl⟩
                    refine g_iinc (q := 3) (z := d2) (lv' := [(6, .int (iI d2)), (8, .int (iI e8)), (7, .int (iI (k : Int))), (5, .int (iI t)), (0, .ref (a 0)), (1, .int (iI A)), (2, .int (iI b)), (3, .int (iI (n : Int))), (4, .int (iI y))]) C d_M_apart_353 rfl e_d2.symm (by decide) rfl rfl ?_
                    refine g_goto (tgt := 85) C d_M_apart_356 (by decide) ?_
                    have hcf : cfN T y (R.getD k []) u = false := hcft.mpr ⟨by omega, fun hy1 => by first | exact absurd hy1 h194 | omega⟩
                    rw [hdr] at hc
                    have e4 : ((d + 1 : Nat) : Int) = (d : Int) + 1 := by omega
                    refine GG.lvs (lv' := [(5, .int (iI t)), (6, .int (iI ((d + 1 : Nat) : Int))), (0, .ref (a 0)), (1, .int (iI A)), (2, .int (iI b)), (3, .int (iI (n : Int))), (4, .int (iI y))]) (by rw [e4, show d2 = (d : Int) + 1 by omega]; simp [lk]) ?_
                    refine ihc (c0 - 1) (by omega) (by omega) (d + 1) (by omega) R.length (k + 1) _ t (s0 + wp W (R.getD k [])) (R.getD k [] :: u) (by omega) (by omega) dn4_AV ht (by omega) (fun Q hQ => ?_) (KR_eq dn4_AFR.1 hK) (fun S1 hA1 t1 ht1 hb1 => ?_)
                    · rcases List.mem_cons.mp hQ with rfl | hQ
                      · exact hPR
                      · exact hu Q hQ
                    rw [e4]
                    have hA2 := AFR_tr dn4_AFR hA1 (Nat.le_refl _)
                    obtain ⟨v1, v2, v3, v4⟩ := hA2.2 d (by omega)
                    have hV1 : AV S1 d k s0 (ubs id u) (ubs (inn T) u) := ⟨v1.trans hV.1, v2.trans hV.2.1, v3.trans hV.2.2.1, v4.trans hV.2.2.2⟩
                    refine ap_back (W := W) (T := T) (R := R) (k := k) C hd5 hV1.1 ?_
                    refine ih (k + 1) _ t1 s0 u (by omega) (by omega) (AV_up hV1) hb1 hs0 hu (KR_eq AFR_up.1 (KR_eq hA2.1 hK)) (fun S' hA t' ht' hb' => ?_)
                    refine hc S' (AFR_tr (AFR_tr ⟨hA2.1, fun x hx => hA2.2 x (by omega)⟩ AFR_up (Nat.le_refl _)) hA (Nat.le_refl _)) t' ?_ hb'
                    rw [se_go hns hcf (by omega), ← ht1]
                    exact ht'
                  · refine g_aload_n C d_M_apart_237 rfl rfl ?_
                    refine g_get C 0 25 i_M wY_0 rfl (by decide) k_M_60 rfl rfl d_M_apart_238 rfl ?_
                    refine g_iload C d_M_apart_241 rfl rfl ?_
                    refine g_iald C 17 0 wY_17 rfl (by omega) (by omega) (by decide) d_M_apart_243 rfl ?_
                    refine g_v (z' := s0) hV.2.1 ?_
                    refine g_aload_n C d_M_apart_244 rfl rfl ?_
                    refine g_get C 0 8 i_M wY_0 rfl (by decide) k_M_26 rfl rfl d_M_apart_245 rfl ?_
                    refine g_iload C d_M_apart_248 rfl rfl ?_
                    refine g_iald C 6 0 wY_6 rfl (by omega) (by omega) (by decide) d_M_apart_250 rfl ?_
                    refine g_v (z' := (wp W (R.getD k []))) k1 ?_
                    refine g_iadd C d_M_apart_251 rfl rfl ?_
                    refine g_nm (fun t2 e_t2 => ?_)
                    refine g_istore (lv' := [(5, .int (iI t2)), (8, .int (iI e8)), (7, .int (iI (k : Int))), (6, .int (iI (d : Int))), (0, .ref (a 0)), (1, .int (iI A)), (2, .int (iI b)), (3, .int (iI (n : Int))), (4, .int (iI y))]) C d_M_apart_252 (by decide) rfl rfl ?_
                    refine g_aload_n C d_M_apart_254 rfl rfl ?_
                    refine g_get C 0 24 i_M wY_0 rfl (by decide) k_M_57 rfl rfl d_M_apart_255 rfl ?_
                    refine g_iload C d_M_apart_258 rfl rfl ?_
                    refine g_dup2 C d_M_apart_260 rfl rfl rfl ?_
                    refine g_iald C 16 0 wY_16 rfl (by omega) (by omega) (by decide) d_M_apart_261 rfl ?_
                    refine g_v (z' := (k : Int)) hV.1 ?_
                    refine g_iconst (z := 1) C d_M_apart_262 rfl rfl ?_
                    refine g_iadd C d_M_apart_263 rfl rfl ?_
                    refine g_iast C 16 0 wY_16 rfl (by omega) (by omega) (by decide) wY_s16 d_M_apart_264 rfl ?_
                    refine g_goto (tgt := 356) C d_M_apart_265 (by decide) ?_
                    refine g_goto (tgt := 85) C d_M_apart_356 (by decide) ?_
                    have hcf : cfN T y (R.getD k []) u = false := hcft.mpr ⟨by omega, fun hy1 => by first | exact absurd hy1 h194 | omega⟩
                    rw [hdr] at hc
                    refine GG.lvs (lv' := [(5, .int (iI (s0 + wp W (R.getD k [])))), (6, .int (iI (d : Int))), (0, .ref (a 0)), (1, .int (iI A)), (2, .int (iI b)), (3, .int (iI (n : Int))), (4, .int (iI y))]) (by rw [e_t2]; simp [lk]) ?_
                    refine ih (k + 1) _ _ s0 u (by omega) (by omega) (AV_up hV) (by omega) hs0 hu (KR_eq AFR_up.1 hK) (fun S' hA t' ht' hb' => ?_)
                    exact hc S' (AFR_tr AFR_up hA (Nat.le_refl _)) t' (by rw [se_on hns hcf (by omega)]; exact ht') hb'
                · refine g_aload_n C d_M_apart_215 rfl rfl ?_
                  refine g_get C 0 24 i_M wY_0 rfl (by decide) k_M_57 rfl rfl d_M_apart_216 rfl ?_
                  refine g_iload C d_M_apart_219 rfl rfl ?_
                  refine g_dup2 C d_M_apart_221 rfl rfl rfl ?_
                  refine g_iald C 16 0 wY_16 rfl (by omega) (by omega) (by decide) d_M_apart_222 rfl ?_
                  refine g_v (z' := (k : Int)) hV.1 ?_
                  refine g_iconst (z := 1) C d_M_apart_223 rfl rfl ?_
                  refine g_iadd C d_M_apart_224 rfl rfl ?_
                  refine g_iast C 16 0 wY_16 rfl (by omega) (by omega) (by decide) wY_s16 d_M_apart_225 rfl ?_
                  refine g_goto (tgt := 356) C d_M_apart_226 (by decide) ?_
                  refine g_goto (tgt := 85) C d_M_apart_356 (by decide) ?_
                  have hcf : cfN T y (R.getD k []) u = true := by
                    cases hq : cfN T y (R.getD k []) u with
                    | true => rfl
                    | false =>
                      have hq2 := hcft.mp hq
                      first
                        | exact absurd (show ((bs (R.getD k []) &&& ubs id u : Nat) : Int) = 0 by rw [hq2.1]; rfl) h188
                        | exact absurd (show ((bs (inn T (R.getD k [])) &&& ubs (inn T) u : Nat) : Int) = 0 by rw [hq2.2 h194]; rfl) h212
                  rw [hdr] at hc
                  refine GG.lvs (lv' := [(5, .int (iI t)), (6, .int (iI (d : Int))), (0, .ref (a 0)), (1, .int (iI A)), (2, .int (iI b)), (3, .int (iI (n : Int))), (4, .int (iI y))]) (by simp [lk]) ?_
                  refine ih (k + 1) _ t s0 u (by omega) (by omega) (AV_up hV) ht hs0 hu (KR_eq AFR_up.1 hK) (fun S' hA t' ht' hb' => ?_)
                  exact hc S' (AFR_tr AFR_up hA (Nat.le_refl _)) t' (by rw [se_nx hns hcf]; exact ht') hb'
          · exact absurd h148 (by omega)
        · refine g_aload_n C d_M_apart_114 rfl rfl ?_
          refine g_get C 0 25 i_M wY_0 rfl (by decide) k_M_60 rfl rfl d_M_apart_115 rfl ?_
          refine g_iload C d_M_apart_118 rfl rfl ?_
          refine g_iald C 17 0 wY_17 rfl (by omega) (by omega) (by decide) d_M_apart_120 rfl ?_
          refine g_v (z' := s0) hV.2.1 ?_
          refine g_iload_n C d_M_apart_121 rfl rfl ?_
          refine g_iload C d_M_apart_122 rfl rfl ?_
          refine g_isub (z := (c0 : Int)) C d_M_apart_124 (by omega) rfl ?_
          refine g_aload_n C d_M_apart_125 rfl rfl ?_
          refine g_get C 0 8 i_M wY_0 rfl (by decide) k_M_26 rfl rfl d_M_apart_126 rfl ?_
          refine g_iload C d_M_apart_129 rfl rfl ?_
          refine g_iald C 6 0 wY_6 rfl (by omega) (by omega) (by decide) d_M_apart_131 rfl ?_
          refine g_v (z' := (wp W (R.getD k []))) k1 ?_
          refine g_imul (z := ((c0 : Int) * wp W (R.getD k []))) C d_M_apart_132 rfl rfl ?_
          refine g_iadd C d_M_apart_133 rfl rfl ?_
          refine g_iload C d_M_apart_134 rfl rfl ?_
          refine g_icmp_lt (tgt := 143) C d_M_apart_136 (by decide) rfl (by omega) (by omega) (fun h136 => ?_) (fun h136 => ?_)
          · refine g_iconst (z := 0) C d_M_apart_143 rfl rfl ?_
            refine g_nm (fun e8 e_e8 => ?_)
            refine g_istore (lv' := [(8, .int (iI e8)), (7, .int (iI (k : Int))), (5, .int (iI t)), (6, .int (iI (d : Int))), (0, .ref (a 0)), (1, .int (iI A)), (2, .int (iI b)), (3, .int (iI (n : Int))), (4, .int (iI y))]) C d_M_apart_144 (by decide) rfl rfl ?_
            refine g_iload C d_M_apart_146 rfl rfl ?_
            refine g_if_eq (tgt := 173) C d_M_apart_148 (by decide) rfl (by omega) (fun h148 => ?_) (fun h148 => ?_)
            · have hns : ¬ (t ≠ -1 ∧ t ≤ s0 + (c0 : Int) * wp W (R.getD k [])) := by
                first
                  | exact fun q => q.1 h111
                  | exact fun q => absurd q.2 (Int.not_le.mpr h136)
              refine g_aload_n C d_M_apart_173 rfl rfl ?_
              refine g_get C 0 12 i_M wY_0 rfl (by decide) k_M_39 rfl rfl d_M_apart_174 rfl ?_
              refine g_iload C d_M_apart_177 rfl rfl ?_
              refine g_iald C 10 0 wY_10 rfl (by omega) (by omega) (by decide) d_M_apart_179 rfl ?_
              refine g_v (z' := ((bs (R.getD k []) : Nat) : Int)) k2 ?_
              refine g_aload_n C d_M_apart_180 rfl rfl ?_
              refine g_get C 0 26 i_M wY_0 rfl (by decide) k_M_63 rfl rfl d_M_apart_181 rfl ?_
              refine g_iload C d_M_apart_184 rfl rfl ?_
              refine g_iald C 18 0 wY_18 rfl (by omega) (by omega) (by decide) d_M_apart_186 rfl ?_
              refine g_v (z' := ((ubs id u : Nat) : Int)) hV.2.2.1 ?_
              refine g_iand (z := ((bs (R.getD k []) &&& ubs id u : Nat) : Int)) C d_M_apart_187 iand_n rfl ?_
              refine g_if_ne (tgt := 215) C d_M_apart_188 (by decide) rfl (by omega) (fun h188 => ?_) (fun h188 => ?_)
              · refine g_aload_n C d_M_apart_215 rfl rfl ?_
                refine g_get C 0 24 i_M wY_0 rfl (by decide) k_M_57 rfl rfl d_M_apart_216 rfl ?_
                refine g_iload C d_M_apart_219 rfl rfl ?_
                refine g_dup2 C d_M_apart_221 rfl rfl rfl ?_
                refine g_iald C 16 0 wY_16 rfl (by omega) (by omega) (by decide) d_M_apart_222 rfl ?_
                refine g_v (z' := (k : Int)) hV.1 ?_
                refine g_iconst (z := 1) C d_M_apart_223 rfl rfl ?_
                refine g_iadd C d_M_apart_224 rfl rfl ?_
                refine g_iast C 16 0 wY_16 rfl (by omega) (by omega) (by decide) wY_s16 d_M_apart_225 rfl ?_
                refine g_goto (tgt := 356) C d_M_apart_226 (by decide) ?_
                refine g_goto (tgt := 85) C d_M_apart_356 (by decide) ?_
                have hcf : cfN T y (R.getD k []) u = true := by
                  cases hq : cfN T y (R.getD k []) u with
                  | true => rfl
                  | false =>
                    have hq2 := hcft.mp hq
                    first
                      | exact absurd (show ((bs (R.getD k []) &&& ubs id u : Nat) : Int) = 0 by rw [hq2.1]; rfl) h188
                      | exact absurd (show ((bs (inn T (R.getD k [])) &&& ubs (inn T) u : Nat) : Int) = 0 by rw [hq2.2 h194]; rfl) h212
                rw [hdr] at hc
                refine GG.lvs (lv' := [(5, .int (iI t)), (6, .int (iI (d : Int))), (0, .ref (a 0)), (1, .int (iI A)), (2, .int (iI b)), (3, .int (iI (n : Int))), (4, .int (iI y))]) (by simp [lk]) ?_
                refine ih (k + 1) _ t s0 u (by omega) (by omega) (AV_up hV) ht hs0 hu (KR_eq AFR_up.1 hK) (fun S' hA t' ht' hb' => ?_)
                exact hc S' (AFR_tr AFR_up hA (Nat.le_refl _)) t' (by rw [se_nx hns hcf]; exact ht') hb'
              · refine g_iload C d_M_apart_191 rfl rfl ?_
                refine g_iconst (z := 1) C d_M_apart_193 rfl rfl ?_
                refine g_icmp_ne (tgt := 229) C d_M_apart_194 (by decide) rfl (by omega) (by omega) (fun h194 => ?_) (fun h194 => ?_)
                · refine g_iload C d_M_apart_229 rfl rfl ?_
                  refine g_iload_n C d_M_apart_231 rfl rfl ?_
                  refine g_iconst (z := 1) C d_M_apart_232 rfl rfl ?_
                  refine g_isub C d_M_apart_233 rfl rfl ?_
                  refine g_icmp_ne (tgt := 268) C d_M_apart_234 (by decide) rfl (by omega) (by omega) (fun h234 => ?_) (fun h234 => ?_)
                  · refine g_aload_n C d_M_apart_268 rfl rfl ?_
                    refine g_get C 0 25 i_M wY_0 rfl (by decide) k_M_60 rfl rfl d_M_apart_269 rfl ?_
                    refine g_iload C d_M_apart_272 rfl rfl ?_
                    refine g_iconst (z := 1) C d_M_apart_274 rfl rfl ?_
                    refine g_iadd C d_M_apart_275 rfl rfl ?_
                    refine g_aload_n C d_M_apart_276 rfl rfl ?_
                    refine g_get C 0 25 i_M wY_0 rfl (by decide) k_M_60 rfl rfl d_M_apart_277 rfl ?_
                    refine g_iload C d_M_apart_280 rfl rfl ?_
                    refine g_iald C 17 0 wY_17 rfl (by omega) (by omega) (by decide) d_M_apart_282 rfl ?_
                    refine g_v (z' := s0) hV.2.1 ?_
                    refine g_aload_n C d_M_apart_283 rfl rfl ?_
                    refine g_get C 0 8 i_M wY_0 rfl (by decide) k_M_26 rfl rfl d_M_apart_284 rfl ?_
                    refine g_iload C d_M_apart_287 rfl rfl ?_
                    refine g_iald C 6 0 wY_6 rfl (by omega) (by omega) (by decide) d_M_apart_289 rfl ?_
                    refine g_v (z' := (wp W (R.getD k []))) k1 ?_
                    refine g_iadd C d_M_apart_290 rfl rfl ?_
                    refine g_iast C 17 0 wY_17 rfl (by omega) (by omega) (by decide) wY_s17 d_M_apart_291 rfl ?_
                    refine g_aload_n C d_M_apart_292 rfl rfl ?_
                    refine g_get C 0 26 i_M wY_0 rfl (by decide) k_M_63 rfl rfl d_M_apart_293 rfl ?_
                    refine g_iload C d_M_apart_296 rfl rfl ?_
                    refine g_iconst (z := 1) C d_M_apart_298 rfl rfl ?_
                    refine g_iadd C d_M_apart_299 rfl rfl ?_
                    refine g_aload_n C d_M_apart_300 rfl rfl ?_
                    refine g_get C 0 26 i_M wY_0 rfl (by decide) k_M_63 rfl rfl d_M_apart_301 rfl ?_
                    refine g_iload C d_M_apart_304 rfl rfl ?_
                    refine g_iald C 18 0 wY_18 rfl (by omega) (by omega) (by decide) d_M_apart_306 rfl ?_
                    refine g_v (z' := ((ubs id u : Nat) : Int)) hV.2.2.1 ?_
                    refine g_aload_n C d_M_apart_307 rfl rfl ?_
                    refine g_get C 0 12 i_M wY_0 rfl (by decide) k_M_39 rfl rfl d_M_apart_308 rfl ?_
                    refine g_iload C d_M_apart_311 rfl rfl ?_
                    refine g_iald C 10 0 wY_10 rfl (by omega) (by omega) (by decide) d_M_apart_313 rfl ?_
                    refine g_v (z' := ((bs (R.getD k []) : Nat) : Int)) k2 ?_
                    refine g_ior (z := ((ubs id u ||| bs (R.getD k []) : Nat) : Int)) C d_M_apart_314 ior_ok rfl ?_
                    refine g_iast C 18 0 wY_18 rfl (by omega) (by omega) (by decide) wY_s18 d_M_apart_315 rfl ?_
                    refine g_aload_n C d_M_apart_316 rfl rfl ?_
                    refine g_get C 0 27 i_M wY_0 rfl (by decide) k_M_66 rfl rfl d_M_apart_317 rfl ?_
                    refine g_iload C d_M_apart_320 rfl rfl ?_
                    refine g_iconst (z := 1) C d_M_apart_322 rfl rfl ?_
                    refine g_iadd C d_M_apart_323 rfl rfl ?_
                    refine g_aload_n C d_M_apart_324 rfl rfl ?_
                    refine g_get C 0 27 i_M wY_0 rfl (by decide) k_M_66 rfl rfl d_M_apart_325 rfl ?_
                    refine g_iload C d_M_apart_328 rfl rfl ?_
                    refine g_iald C 19 0 wY_19 rfl (by omega) (by omega) (by decide) d_M_apart_330 rfl ?_
                    refine g_v (z' := ((ubs (inn T) u : Nat) : Int)) hV.2.2.2 ?_
                    refine g_aload_n C d_M_apart_331 rfl rfl ?_
                    refine g_get C 0 13 i_M wY_0 rfl (by decide) k_M_42 rfl rfl d_M_apart_332 rfl ?_
                    refine g_iload C d_M_apart_335 rfl rfl ?_
                    refine g_iald C 11 0 wY_11 rfl (by omega) (by omega) (by decide) d_M_apart_337 rfl ?_
                    refine g_v (z' := ((bs (inn T (R.getD k [])) : Nat) : Int)) k3 ?_
                    refine g_ior (z := ((ubs (inn T) u ||| bs (inn T (R.getD k [])) : Nat) : Int)) C d_M_apart_338 ior_ok rfl ?_
                    refine g_iast C 19 0 wY_19 rfl (by omega) (by omega) (by decide) wY_s19 d_M_apart_339 rfl ?_
                    refine g_aload_n C d_M_apart_340 rfl rfl ?_
                    refine g_get C 0 24 i_M wY_0 rfl (by decide) k_M_57 rfl rfl d_M_apart_341 rfl ?_
                    refine g_iload C d_M_apart_344 rfl rfl ?_
                    refine g_iconst (z := 1) C d_M_apart_346 rfl rfl ?_
                    refine g_iadd C d_M_apart_347 rfl rfl ?_
                    refine g_iload C d_M_apart_348 rfl rfl ?_
                    refine g_iconst (z := 1) C d_M_apart_350 rfl rfl ?_
                    refine g_iadd C d_M_apart_351 rfl rfl ?_
                    refine g_iast C 16 0 wY_16 rfl (by omega) (by omega) (by decide) wY_s16 d_M_apart_352 rfl ?_
                    obtain ⟨d2, e_d2⟩ : ∃ z : Int, z = (d : Int) + 1 := ⟨_, rfl⟩
                    refine g_iinc (q := 3) (z := d2) (lv' := [(6, .int (iI d2)), (8, .int (iI e8)), (7, .int (iI (k : Int))), (5, .int (iI t)), (0, .ref (a 0)), (1, .int (iI A)), (2, .int (iI b)), (3, .int (iI (n : Int))), (4, .int (iI y))]) C d_M_apart_353 rfl e_d2.symm (by decide) rfl rfl ?_
                    refine g_goto (tgt := 85) C d_M_apart_356 (by decide) ?_
                    have hcf : cfN T y (R.getD k []) u = false := hcft.mpr ⟨by omega, fun hy1 => by first | exact absurd hy1 h194 | omega⟩
                    rw [hdr] at hc
                    have e4 : ((d + 1 : Nat) : Int) = (d : Int) + 1 := by omega
                    refine GG.lvs (lv' := [(5, .int (iI t)), (6, .int (iI ((d + 1 : Nat) : Int))), (0, .ref (a 0)), (1, .int (iI A)), (2, .int (iI b)), (3, .int (iI (n : Int))), (4, .int (iI y))]) (by rw [e4, show d2 = (d : Int) + 1 by omega]; simp [lk]) ?_
                    refine ihc (c0 - 1) (by omega) (by omega) (d + 1) (by omega) R.length (k + 1) _ t (s0 + wp W (R.getD k [])) (R.getD k [] :: u) (by omega) (by omega) dn4_AV ht (by omega) (fun Q hQ => ?_) (KR_eq dn4_AFR.1 hK) (fun S1 hA1 t1 ht1 hb1 => ?_)
                    · rcases List.mem_cons.mp hQ with rfl | hQ
                      · exact hPR
                      · exact hu Q hQ
                    rw [e4]
                    have hA2 := AFR_tr dn4_AFR hA1 (Nat.le_refl _)
                    obtain ⟨v1, v2, v3, v4⟩ := hA2.2 d (by omega)
                    have hV1 : AV S1 d k s0 (ubs id u) (ubs (inn T) u) := ⟨v1.trans hV.1, v2.trans hV.2.1, v3.trans hV.2.2.1, v4.trans hV.2.2.2⟩
                    refine ap_back (W := W) (T := T) (R := R) (k := k) C hd5 hV1.1 ?_
                    refine ih (k + 1) _ t1 s0 u (by omega) (by omega) (AV_up hV1) hb1 hs0 hu (KR_eq AFR_up.1 (KR_eq hA2.1 hK)) (fun S' hA t' ht' hb' => ?_)
                    refine hc S' (AFR_tr (AFR_tr ⟨hA2.1, fun x hx => hA2.2 x (by omega)⟩ AFR_up (Nat.le_refl _)) hA (Nat.le_refl _)) t' ?_ hb'
                    rw [se_go hns hcf (by omega), ← ht1]
                    exact ht'
                  · refine g_aload_n C d_M_apart_237 rfl rfl ?_
                    refine g_get C 0 25 i_M wY_0 rfl (by decide) k_M_60 rfl rfl d_M_apart_238 rfl ?_
                    refine g_iload C d_M_apart_241 rfl rfl ?_
                    refine g_iald C 17 0 wY_17 rfl (by omega) (by omega) (by decide) d_M_apart_243 rfl ?_
                    refine g_v (z' := s0) hV.2.1 ?_
                    refine g_aload_n C d_M_apart_244 rfl rfl ?_
                    refine g_get C 0 8 i_M wY_0 rfl (by decide) k_M_26 rfl rfl d_M_apart_245 rfl ?_
                    refine g_iload C d_M_apart_248 rfl rfl ?_
                    refine g_iald C 6 0 wY_6 rfl (by omega) (by omega) (by decide) d_M_apart_250 rfl ?_
                    refine g_v (z' := (wp W (R.getD k []))) k1 ?_
                    refine g_iadd C d_M_apart_251 rfl rfl ?_
                    refine g_nm (fun t2 e_t2 => ?_)
                    refine g_istore (lv' := [(5, .int (iI t2)), (8, .int (iI e8)), (7, .int (iI (k : Int))), (6, .int (iI (d : Int))), (0, .ref (a 0)), (1, .int (iI A)), (2, .int (iI b)), (3, .int (iI (n : Int))), (4, .int (iI y))]) C d_M_apart_252 (by decide) rfl rfl ?_
                    refine g_aload_n C d_M_apart_254 rfl rfl ?_
                    refine g_get C 0 24 i_M wY_0 rfl (by decide) k_M_57 rfl rfl d_M_apart_255 rfl ?_
                    refine g_iload C d_M_apart_258 rfl rfl ?_
                    refine g_dup2 C d_M_apart_260 rfl rfl rfl ?_
                    refine g_iald C 16 0 wY_16 rfl (by omega) (by omega) (by decide) d_M_apart_261 rfl ?_
                    refine g_v (z' := (k : Int)) hV.1 ?_
                    refine g_iconst (z := 1) C d_M_apart_262 rfl rfl ?_
                    refine g_iadd C d_M_apart_263 rfl rfl ?_
                    refine g_iast C 16 0 wY_16 rfl (by omega) (by omega) (by decide) wY_s16 d_M_apart_264 rfl ?_
                    refine g_goto (tgt := 356) C d_M_apart_265 (by decide) ?_
                    refine g_goto (tgt := 85) C d_M_apart_356 (by decide) ?_
                    have hcf : cfN T y (R.getD k []) u = false := hcft.mpr ⟨by omega, fun hy1 => by first | exact absurd hy1 h194 | omega⟩
                    rw [hdr] at hc
                    refine GG.lvs (lv' := [(5, .int (iI (s0 + wp W (R.getD k [])))), (6, .int (iI (d : Int))), (0, .ref (a 0)), (1, .int (iI A)), (2, .int (iI b)), (3, .int (iI (n : Int))), (4, .int (iI y))]) (by rw [e_t2]; simp [lk]) ?_
                    refine ih (k + 1) _ _ s0 u (by omega) (by omega) (AV_up hV) (by omega) hs0 hu (KR_eq AFR_up.1 hK) (fun S' hA t' ht' hb' => ?_)
                    exact hc S' (AFR_tr AFR_up hA (Nat.le_refl _)) t' (by rw [se_on hns hcf (by omega)]; exact ht') hb'
                · refine g_aload_n C d_M_apart_197 rfl rfl ?_
                  refine g_get C 0 13 i_M wY_0 rfl (by decide) k_M_42 rfl rfl d_M_apart_198 rfl ?_
                  refine g_iload C d_M_apart_201 rfl rfl ?_
                  refine g_iald C 11 0 wY_11 rfl (by omega) (by omega) (by decide) d_M_apart_203 rfl ?_
                  refine g_v (z' := ((bs (inn T (R.getD k [])) : Nat) : Int)) k3 ?_
                  refine g_aload_n C d_M_apart_204 rfl rfl ?_
                  refine g_get C 0 27 i_M wY_0 rfl (by decide) k_M_66 rfl rfl d_M_apart_205 rfl ?_
                  refine g_iload C d_M_apart_208 rfl rfl ?_
                  refine g_iald C 19 0 wY_19 rfl (by omega) (by omega) (by decide) d_M_apart_210 rfl ?_
                  refine g_v (z' := ((ubs (inn T) u : Nat) : Int)) hV.2.2.2 ?_
                  refine g_iand (z := ((bs (inn T (R.getD k [])) &&& ubs (inn T) u : Nat) : Int)) C d_M_apart_211 iand_n rfl ?_
                  refine g_if_eq (tgt := 229) C d_M_apart_212 (by decide) rfl (by omega) (fun h212 => ?_) (fun h212 => ?_)
                  · refine g_iload C d_M_apart_229 rfl rfl ?_
                    refine g_iload_n C d_M_apart_231 rfl rfl ?_
                    refine g_iconst (z := 1) C d_M_apart_232 rfl rfl ?_
                    refine g_isub C d_M_apart_233 rfl rfl ?_
                    refine g_icmp_ne (tgt := 268) C d_M_apart_234 (by decide) rfl (by omega) (by omega) (fun h234 => ?_) (fun h234 => ?_)
                    · refine g_aload_n C d_M_apart_268 rfl rfl ?_
                      refine g_get C 0 25 i_M wY_0 rfl (by decide) k_M_60 rfl rfl d_M_apart_269 rfl ?_
                      refine g_iload C d_M_apart_272 rfl rfl ?_
                      refine g_iconst (z := 1) C d_M_apart_274 rfl rfl ?_
                      refine g_iadd C d_M_apart_275 rfl rfl ?_
                      refine g_aload_n C d_M_apart_276 rfl rfl ?_
                      refine g_get C 0 25 i_M wY_0 rfl (by decide) k_M_60 rfl rfl d_M_apart_277 rfl ?_
                      refine g_iload C d_M_apart_280 rfl rfl ?_
                      refine g_iald C 17 0 wY_17 rfl (by omega) (by omega) (by decide) d_M_apart_282 rfl ?_
                      refine g_v (z' := s0) hV.2.1 ?_
                      refine g_aload_n C d_M_apart_283 rfl rfl ?_
                      refine g_get C 0 8 i_M wY_0 rfl (by decide) k_M_26 rfl rfl d_M_apart_284 rfl ?_
                      refine g_iload C d_M_apart_287 rfl rfl ?_
                      refine g_iald C 6 0 wY_6 rfl (by omega) (by omega) (by decide) d_M_apart_289 rfl ?_
                      refine g_v (z' := (wp W (R.getD k []))) k1 ?_
                      refine g_iadd C d_M_apart_290 rfl rfl ?_
                      refine g_iast C 17 0 wY_17 rfl (by omega) (by omega) (by decide) wY_s17 d_M_apart_291 rfl ?_
                      refine g_aload_n C d_M_apart_292 rfl rfl ?_
                      refine g_get C 0 26 i_M wY_0 rfl (by decide) k_M_63 rfl rfl d_M_apart_293 rfl ?_
                      refine g_iload C d_M_apart_296 rfl rfl ?_
                      refine g_iconst (z := 1) C d_M_apart_298 rfl rfl ?_
                      refine g_iadd C d_M_apart_299 rfl rfl ?_
                      refine g_aload_n C d_M_apart_300 rfl rfl ?_
                      refine g_get C 0 26 i_M wY_0 rfl (by decide) k_M_63 rfl rfl d_M_apart_301 rfl ?_
                      refine g_iload C d_M_apart_304 rfl rfl ?_
                      refine g_iald C 18 0 wY_18 rfl (by omega) (by omega) (by decide) d_M_apart_306 rfl ?_
                      refine g_v (z' := ((ubs id u : Nat) : Int)) hV.2.2.1 ?_
                      refine g_aload_n C d_M_apart_307 rfl rfl ?_
                      refine g_get C 0 12 i_M wY_0 rfl (by decide) k_M_39 rfl rfl d_M_apart_308 rfl ?_
                      refine g_iload C d_M_apart_311 rfl rfl ?_
                      refine g_iald C 10 0 wY_10 rfl (by omega) (by omega) (by decide) d_M_apart_313 rfl ?_
                      refine g_v (z' := ((bs (R.getD k []) : Nat) : Int)) k2 ?_
                      refine g_ior (z := ((ubs id u ||| bs (R.getD k []) : Nat) : Int)) C d_M_apart_314 ior_ok rfl ?_
                      refine g_iast C 18 0 wY_18 rfl (by omega) (by omega) (by decide) wY_s18 d_M_apart_315 rfl ?_
                      refine g_aload_n C d_M_apart_316 rfl rfl ?_
                      refine g_get C 0 27 i_M wY_0 rfl (by decide) k_M_66 rfl rfl d_M_apart_317 rfl ?_
                      refine g_iload C d_M_apart_320 rfl rfl ?_
                      refine g_iconst (z := 1) C d_M_apart_322 rfl rfl ?_
                      refine g_iadd C d_M_apart_323 rfl rfl ?_
                      refine g_aload_n C d_M_apart_324 rfl rfl ?_
                      refine g_get C 0 27 i_M wY_0 rfl (by decide) k_M_66 rfl rfl d_M_apart_325 rfl ?_
                      refine g_iload C d_M_apart_328 rfl rfl ?_
                      refine g_iald C 19 0 wY_19 rfl (by omega) (by omega) (by decide) d_M_apart_330 rfl ?_
                      refine g_v (z' := ((ubs (inn T) u : Nat) : Int)) hV.2.2.2 ?_
                      refine g_aload_n C d_M_apart_331 rfl rfl ?_
                      refine g_get C 0 13 i_M wY_0 rfl (by decide) k_M_42 rfl rfl d_M_apart_332 rfl ?_
                      refine g_iload C d_M_apart_335 rfl rfl ?_
                      refine g_iald C 11 0 wY_11 rfl (by omega) (by omega) (by decide) d_M_apart_337 rfl ?_
                      refine g_v (z' := ((bs (inn T (R.getD k [])) : Nat) : Int)) k3 ?_
                      refine g_ior (z := ((ubs (inn T) u ||| bs (inn T (R.getD k [])) : Nat) : Int)) C d_M_apart_338 ior_ok rfl ?_
                      refine g_iast C 19 0 wY_19 rfl (by omega) (by omega) (by decide) wY_s19 d_M_apart_339 rfl ?_
                      refine g_aload_n C d_M_apart_340 rfl rfl ?_
                      refine g_get C 0 24 i_M wY_0 rfl (by decide) k_M_57 rfl rfl d_M_apart_341 rfl ?_
                      refine g_iload C d_M_apart_344 rfl rfl ?_
                      refine g_iconst (z := 1) C d_M_apart_346 rfl rfl ?_
                      refine g_iadd C d_M_apart_347 rfl rfl ?_
                      refine g_iload C d_M_apart_348 rfl rfl ?_
                      refine g_iconst (z := 1) C d_M_apart_350 rfl rfl ?_
                      refine g_iadd C d_M_apart_351 rfl rfl ?_
                      refine g_iast C 16 0 wY_16 rfl (by omega) (by omega) (by decide) wY_s16 d_M_apart_352 rfl ?_
                      obtain ⟨d2, e_d2⟩ : ∃ z : Int, z = (d : Int) + 1 := ⟨_, rfl⟩
                      refine g_iinc (q := 3) (z := d2) (lv' := [(6, .int (iI d2)), (8, .int (iI e8)), (7, .int (iI (k : Int))), (5, .int (iI t)), (0, .ref (a 0)), (1, .int (iI A)), (2, .int (iI b)), (3, .int (iI (n : Int))), (4, .int (iI y))]) C d_M_apart_353 rfl e_d2.symm (by decide) rfl rfl ?_
                      refine g_goto (tgt := 85) C d_M_apart_356 (by decide) ?_
                      have hcf : cfN T y (R.getD k []) u = false := hcft.mpr ⟨by omega, fun hy1 => by first | exact absurd hy1 h194 | omega⟩
                      rw [hdr] at hc
                      have e4 : ((d + 1 : Nat) : Int) = (d : Int) + 1 := by omega
                      refine GG.lvs (lv' := [(5, .int (iI t)), (6, .int (iI ((d + 1 : Nat) : Int))), (0, .ref (a 0)), (1, .int (iI A)), (2, .int (iI b)), (3, .int (iI (n : Int))), (4, .int (iI y))]) (by rw [e4, show d2 = (d : Int) + 1 by omega]; simp [lk]) ?_
                      refine ihc (c0 - 1) (by omega) (by omega) (d + 1) (by omega) R.length (k + 1) _ t (s0 + wp W (R.getD k [])) (R.getD k [] :: u) (by omega) (by omega) dn4_AV ht (by omega) (fun Q hQ => ?_) (KR_eq dn4_AFR.1 hK) (fun S1 hA1 t1 ht1 hb1 => ?_)
                      · rcases List.mem_cons.mp hQ with rfl | hQ
                        · exact hPR
                        · exact hu Q hQ
                      rw [e4]
                      have hA2 := AFR_tr dn4_AFR hA1 (Nat.le_refl _)
                      obtain ⟨v1, v2, v3, v4⟩ := hA2.2 d (by omega)
                      have hV1 : AV S1 d k s0 (ubs id u) (ubs (inn T) u) := ⟨v1.trans hV.1, v2.trans hV.2.1, v3.trans hV.2.2.1, v4.trans hV.2.2.2⟩
                      refine ap_back (W := W) (T := T) (R := R) (k := k) C hd5 hV1.1 ?_
                      refine ih (k + 1) _ t1 s0 u (by omega) (by omega) (AV_up hV1) hb1 hs0 hu (KR_eq AFR_up.1 (KR_eq hA2.1 hK)) (fun S' hA t' ht' hb' => ?_)
                      refine hc S' (AFR_tr (AFR_tr ⟨hA2.1, fun x hx => hA2.2 x (by omega)⟩ AFR_up (Nat.le_refl _)) hA (Nat.le_refl _)) t' ?_ hb'
                      rw [se_go hns hcf (by omega), ← ht1]
                      exact ht'
                    · refine g_aload_n C d_M_apart_237 rfl rfl ?_
                      refine g_get C 0 25 i_M wY_0 rfl (by decide) k_M_60 rfl rfl d_M_apart_238 rfl ?_
                      refine g_iload C d_M_apart_241 rfl rfl ?_
                      refine g_iald C 17 0 wY_17 rfl (by omega) (by omega) (by decide) d_M_apart_243 rfl ?_
                      refine g_v (z' := s0) hV.2.1 ?_
                      refine g_aload_n C d_M_apart_244 rfl rfl ?_
                      refine g_get C 0 8 i_M wY_0 rfl (by decide) k_M_26 rfl rfl d_M_apart_245 rfl ?_
                      refine g_iload C d_M_apart_248 rfl rfl ?_
                      refine g_iald C 6 0 wY_6 rfl (by omega) (by omega) (by decide) d_M_apart_250 rfl ?_
                      refine g_v (z' := (wp W (R.getD k []))) k1 ?_
                      refine g_iadd C d_M_apart_251 rfl rfl ?_
                      refine g_nm (fun t2 e_t2 => ?_)
                      refine g_istore (lv' := [(5, .int (iI t2)), (8, .int (iI e8)), (7, .int (iI (k : Int))), (6, .int (iI (d : Int))), (0, .ref (a 0)), (1, .int (iI A)), (2, .int (iI b)), (3, .int (iI (n : Int))), (4, .int (iI y))]) C d_M_apart_252 (by decide) rfl rfl ?_
                      refine g_aload_n C d_M_apart_254 rfl rfl ?_
                      refine g_get C 0 24 i_M wY_0 rfl (by decide) k_M_57 rfl rfl d_M_apart_255 rfl ?_
                      refine g_iload C d_M_apart_258 rfl rfl ?_
                      refine g_dup2 C d_M_apart_260 rfl rfl rfl ?_
                      refine g_iald C 16 0 wY_16 rfl (by omega) (by omega) (by decide) d_M_apart_261 rfl ?_
                      refine g_v (z' := (k : Int)) hV.1 ?_
                      refine g_iconst (z := 1) C d_M_apart_262 rfl rfl ?_
                      refine g_iadd C d_M_apart_263 rfl rfl ?_
                      refine g_iast C 16 0 wY_16 rfl (by omega) (by omega) (by decide) wY_s16 d_M_apart_264 rfl ?_
                      refine g_goto (tgt := 356) C d_M_apart_265 (by decide) ?_
                      refine g_goto (tgt := 85) C d_M_apart_356 (by decide) ?_
                      have hcf : cfN T y (R.getD k []) u = false := hcft.mpr ⟨by omega, fun hy1 => by first | exact absurd hy1 h194 | omega⟩
                      rw [hdr] at hc
                      refine GG.lvs (lv' := [(5, .int (iI (s0 + wp W (R.getD k [])))), (6, .int (iI (d : Int))), (0, .ref (a 0)), (1, .int (iI A)), (2, .int (iI b)), (3, .int (iI (n : Int))), (4, .int (iI y))]) (by rw [e_t2]; simp [lk]) ?_
                      refine ih (k + 1) _ _ s0 u (by omega) (by omega) (AV_up hV) (by omega) hs0 hu (KR_eq AFR_up.1 hK) (fun S' hA t' ht' hb' => ?_)
                      exact hc S' (AFR_tr AFR_up hA (Nat.le_refl _)) t' (by rw [se_on hns hcf (by omega)]; exact ht') hb'
                  · refine g_aload_n C d_M_apart_215 rfl rfl ?_
                    refine g_get C 0 24 i_M wY_0 rfl (by decide) k_M_57 rfl rfl d_M_apart_216 rfl ?_
                    refine g_iload C d_M_apart_219 rfl rfl ?_
                    refine g_dup2 C d_M_apart_221 rfl rfl rfl ?_
                    refine g_iald C 16 0 wY_16 rfl (by omega) (by omega) (by decide) d_M_apart_222 rfl ?_
                    refine g_v (z' := (k : Int)) hV.1 ?_
                    refine g_iconst (z := 1) C d_M_apart_223 rfl rfl ?_
                    refine g_iadd C d_M_apart_224 rfl rfl ?_
                    refine g_iast C 16 0 wY_16 rfl (by omega) (by omega) (by decide) wY_s16 d_M_apart_225 rfl ?_
                    refine g_goto (tgt := 356) C d_M_apart_226 (by decide) ?_
                    refine g_goto (tgt := 85) C d_M_apart_356 (by decide) ?_
                    have hcf : cfN T y (R.getD k []) u = true := by
                      cases hq : cfN T y (R.getD k []) u with
                      | true => rfl
                      | false =>
                        have hq2 := hcft.mp hq
                        first
                          | exact absurd (show ((bs (R.getD k []) &&& ubs id u : Nat) : Int) = 0 by rw [hq2.1]; rfl) h188
                          | exact absurd (show ((bs (inn T (R.getD k [])) &&& ubs (inn T) u : Nat) : Int) = 0 by rw [hq2.2 h194]; rfl) h212
                    rw [hdr] at hc
                    refine GG.lvs (lv' := [(5, .int (iI t)), (6, .int (iI (d : Int))), (0, .ref (a 0)), (1, .int (iI A)), (2, .int (iI b)), (3, .int (iI (n : Int))), (4, .int (iI y))]) (by simp [lk]) ?_
                    refine ih (k + 1) _ t s0 u (by omega) (by omega) (AV_up hV) ht hs0 hu (KR_eq AFR_up.1 hK) (fun S' hA t' ht' hb' => ?_)
                    exact hc S' (AFR_tr AFR_up hA (Nat.le_refl _)) t' (by rw [se_nx hns hcf]; exact ht') hb'
            · exact absurd h148 (by omega)
          · refine g_iconst (z := 1) C d_M_apart_139 rfl rfl ?_
            refine g_goto (tgt := 144) C d_M_apart_140 (by decide) ?_
            refine g_nm (fun e8 e_e8 => ?_)
            refine g_istore (lv' := [(8, .int (iI e8)), (7, .int (iI (k : Int))), (5, .int (iI t)), (6, .int (iI (d : Int))), (0, .ref (a 0)), (1, .int (iI A)), (2, .int (iI b)), (3, .int (iI (n : Int))), (4, .int (iI y))]) C d_M_apart_144 (by decide) rfl rfl ?_
            refine g_iload C d_M_apart_146 rfl rfl ?_
            refine g_if_eq (tgt := 173) C d_M_apart_148 (by decide) rfl (by omega) (fun h148 => ?_) (fun h148 => ?_)
            · exact absurd h148 (by omega)
            · refine GG.lvs (lv' := [(5, .int (iI t)), (6, .int (iI (d : Int))), (0, .ref (a 0)), (1, .int (iI A)), (2, .int (iI b)), (3, .int (iI (n : Int))), (4, .int (iI y))]) (by simp [lk]) ?_
              refine hc S AFR_rf t ?_ ht
              first
                | (have hkl : k = R.length := by omega
                   rw [hkl, List.drop_length]; rfl)
                | (rw [hdr]; exact (se_cut h111 h136).symm)

theorem okR_sp {S : Nat → Int → Int} {u v : Int} (hG : GJ S) (hu : 0 ≤ u ∧ u < S 0 0) : okR (S 3) (spS S u v) ∧ ∀ P, P ∈ spS S u v → 0 ≤ wp (S 4) P ∧ wp (S 4) P ≤ 7000 := by
  have hn := hG.1
  have hn2 := hG.2.1
  refine ⟨fun P hP => ⟨fun k hk => ?_, fun k hk => ?_⟩, fun P hP => ?_⟩
  · have := vq_arcs _ _ _ ((sp_mem hG.2.2 (a := u) (b := v) (by omega) P).mp hP) k hk
    omega
  · rw [inn_map] at hk
    obtain ⟨j, -, rfl⟩ := List.mem_map.mp hk
    have := hG.2.2.2.2.1 j
    omega
  · have h1 := wp_bd (W := S 4) (fun k => ⟨(hG.2.2.2.2.1 k).2.2.2.2.1, (hG.2.2.2.2.1 k).2.2.2.2.2.1⟩) P
    have h2 := (sp_ok5 hG.2.2 (a := u) (b := v) (by omega) hP).1
    omega

set_option maxRecDepth 100000 in
set_option maxHeartbeats 4000000 in
theorem m_M_apart {l : Launch} {D : va_G} {a : Nat → Nat} {ki kz kl kq : ClassId} {S : Nat → Int → Int} {u v n y : Int} (hG : GJ S) (hu : r32 u) (hv : r32 v) (hn : r32 n) (hy : r32 y) : MY l D a ki kz kl kq y_M_apart b_M_apart 9 (some .int) rm_M_apart [.ref (a 0), .int (iI u), .int (iI v), .int (iI n), .int (iI y)] S (pI fun r S' => (¬ (twoS S u v ∧ (1 ≤ n ∧ n ≤ 5) ∧ (0 ≤ y ∧ y ≤ 1)) ∧ r = -2 ∧ S' = S) ∨ ((twoS S u v ∧ (1 ≤ n ∧ n ≤ 5) ∧ (0 ≤ y ∧ y ≤ 1)) ∧ eqx [7, 8, 9, 10, 11, 12, 13, 22, 23, 24, 25, 26, 27] S S' ∧ ∃ k : Int, (0 ≤ k ∧ k ≤ 20) ∧ cuL S u v y k ∧ (k = 20 ∨ cuG S u v y k) ∧ ((k < n ∧ r = -1) ∨ (n ≤ k ∧ r = se (wp (S 4)) (cfN (S 3) y) (spS S u v) n.toNat 0 [] (-1))))) := by
  refine MM.go b_M_apart 9 (some .int) "NextPathsModel" [(0, .ref (a 0)), (1, .int (iI u)), (2, .int (iI v)), (3, .int (iI n)), (4, .int (iI y))] (by decide) rfl rfl (Nat.le_of_ble_eq_true rfl) ?_
  intro p e s m args below meth c C hr hk
  refine g_aload_n C d_M_apart_0 rfl rfl ?_
  refine g_iload_n C d_M_apart_1 rfl rfl ?_
  refine g_iload_n C d_M_apart_2 rfl rfl ?_
  refine g_runI (wY_fix a ki kz kl kq) rfl (rn_V C (m_M_areTwo hu hv hG.1) 0 2 wY_0 rfl rfl kc_M_areTwo k_M_91 ki_M_areTwo kx_M_areTwo kn_M hy_M_areTwo ⟨rfl, rfl⟩ ⟨by decide, by decide⟩ ⟨Nat.le_refl _, Nat.le_refl _⟩ rfl rfl (Nat.le_of_ble_eq_true rfl) d_M_apart_3) (fun r1 S1 hp1 => ?_)
  obtain ⟨hS1, hp1⟩ := hp1
  refine GG.at hS1 ?_
  refine g_if_eq (tgt := 28) C d_M_apart_6 (by decide) rfl (by omega) (fun h6 => ?_) (fun h6 => ?_)
  · refine g_bipush (z := (-2)) C d_M_apart_28 rfl (by decide) ?_
    refine g_iret C hr hk d_M_apart_30 ⟨_, rfl, ?_⟩
    exact Or.inl ⟨by omega, rfl, rfl⟩
  · refine g_iload_n C d_M_apart_9 rfl rfl ?_
    refine g_iconst (z := 1) C d_M_apart_10 rfl rfl ?_
    refine g_iconst (z := 5) C d_M_apart_11 rfl rfl ?_
    refine g_runI (wY_fix a ki kz kl kq) rfl (rn_S C (m_M_isIn hn (by decide) (by decide)) 3 kc_M_isIn k_M_83 ks_M_isIn kn_M hy_M_isIn ⟨rfl, rfl⟩ ⟨by decide, by decide⟩ ⟨Nat.le_refl _, Nat.le_refl _⟩ rfl rfl (Nat.le_of_ble_eq_true rfl) d_M_apart_12) (fun r2 S2 hp2 => ?_)
    obtain ⟨hS2, hp2⟩ := hp2
    refine GG.at hS2 ?_
    refine g_if_eq (tgt := 28) C d_M_apart_15 (by decide) rfl (by omega) (fun h15 => ?_) (fun h15 => ?_)
    · refine g_bipush (z := (-2)) C d_M_apart_28 rfl (by decide) ?_
      refine g_iret C hr hk d_M_apart_30 ⟨_, rfl, ?_⟩
      exact Or.inl ⟨by omega, rfl, rfl⟩
    · refine g_iload C d_M_apart_18 rfl rfl ?_
      refine g_iconst (z := 0) C d_M_apart_20 rfl rfl ?_
      refine g_iconst (z := 1) C d_M_apart_21 rfl rfl ?_
      refine g_runI (wY_fix a ki kz kl kq) rfl (rn_S C (m_M_isIn hy (by decide) (by decide)) 3 kc_M_isIn k_M_83 ks_M_isIn kn_M hy_M_isIn ⟨rfl, rfl⟩ ⟨by decide, by decide⟩ ⟨Nat.le_refl _, Nat.le_refl _⟩ rfl rfl (Nat.le_of_ble_eq_true rfl) d_M_apart_22) (fun r3 S3 hp3 => ?_)
      obtain ⟨hS3, hp3⟩ := hp3
      refine GG.at hS3 ?_
      refine g_if_ne (tgt := 31) C d_M_apart_25 (by decide) rfl (by omega) (fun h25 => ?_) (fun h25 => ?_)
      · refine g_aload_n C d_M_apart_31 rfl rfl ?_
        refine g_iload_n C d_M_apart_32 rfl rfl ?_
        refine g_iload_n C d_M_apart_33 rfl rfl ?_
        refine g_iload C d_M_apart_34 rfl rfl ?_
        refine g_runI (wY_fix a ki kz kl kq) rfl (rn_V C (m_M_most hG hu hv hy) 0 3 wY_0 rfl rfl kc_M_most k_M_130 ki_M_most kx_M_most kn_M hy_M_most ⟨rfl, rfl⟩ ⟨by decide, by decide⟩ ⟨Nat.le_refl _, Nat.le_refl _⟩ rfl rfl (Nat.le_of_ble_eq_true rfl) d_M_apart_36) (fun r4 S4 hp4 => ?_)
        have hq4 := hp4.resolve_left (fun q => q.1 (by omega))
        refine GG.at hq4.2.1 ?_
        have hb4 := hq4.2.2.1
        refine g_iload_n C d_M_apart_39 rfl rfl ?_
        refine g_icmp_ge (tgt := 45) C d_M_apart_40 (by decide) rfl (by omega) (by omega) (fun h40 => ?_) (fun h40 => ?_)
        · refine g_aload_n C d_M_apart_45 rfl rfl ?_
          refine g_iload_n C d_M_apart_46 rfl rfl ?_
          refine g_iload_n C d_M_apart_47 rfl rfl ?_
          refine g_runV (wY_fix a ki kz kl kq) rfl (rn_V C (m_M_find hG (by omega)) 0 2 wY_0 rfl rfl kc_M_find k_M_122 ki_M_find kx_M_find kn_M hy_M_find ⟨rfl, rfl⟩ ⟨by decide, by decide⟩ ⟨Nat.le_refl _, Nat.le_refl _⟩ rfl rfl (Nat.le_of_ble_eq_true rfl) d_M_apart_48) (fun S5 hp5 => ?_)
          have hl58 : (spS S u v).length ≤ 1458 := sp_len hG.2.2 (a := u) (b := v) (by have := hG.1; omega) (by have := hG.1; omega)
          refine g_iconst (z := (-1)) C d_M_apart_51 rfl rfl ?_
          refine g_nm (fun t0 e_t0 => ?_)
          refine g_istore (lv' := [(5, .int (iI t0)), (0, .ref (a 0)), (1, .int (iI u)), (2, .int (iI v)), (3, .int (iI n)), (4, .int (iI y))]) C d_M_apart_52 (by decide) rfl rfl ?_
          refine g_iconst (z := 0) C d_M_apart_54 rfl rfl ?_
          refine g_nm (fun d0 e_d0 => ?_)
          refine g_istore (lv' := [(6, .int (iI d0)), (5, .int (iI t0)), (0, .ref (a 0)), (1, .int (iI u)), (2, .int (iI v)), (3, .int (iI n)), (4, .int (iI y))]) C d_M_apart_55 (by decide) rfl rfl ?_
          refine g_aload_n C d_M_apart_57 rfl rfl ?_
          refine g_get C 0 24 i_M wY_0 rfl (by decide) k_M_57 rfl rfl d_M_apart_58 rfl ?_
          refine g_iconst (z := 0) C d_M_apart_61 rfl rfl ?_
          refine g_iconst (z := 0) C d_M_apart_62 rfl rfl ?_
          refine g_iast C 16 0 wY_16 rfl (by omega) (by omega) (by decide) wY_s16 d_M_apart_63 rfl ?_
          refine g_aload_n C d_M_apart_64 rfl rfl ?_
          refine g_get C 0 25 i_M wY_0 rfl (by decide) k_M_60 rfl rfl d_M_apart_65 rfl ?_
          refine g_iconst (z := 0) C d_M_apart_68 rfl rfl ?_
          refine g_iconst (z := 0) C d_M_apart_69 rfl rfl ?_
          refine g_iast C 17 0 wY_17 rfl (by omega) (by omega) (by decide) wY_s17 d_M_apart_70 rfl ?_
          refine g_aload_n C d_M_apart_71 rfl rfl ?_
          refine g_get C 0 26 i_M wY_0 rfl (by decide) k_M_63 rfl rfl d_M_apart_72 rfl ?_
          refine g_iconst (z := 0) C d_M_apart_75 rfl rfl ?_
          refine g_iconst (z := 0) C d_M_apart_76 rfl rfl ?_
          refine g_iast C 18 0 wY_18 rfl (by omega) (by omega) (by decide) wY_s18 d_M_apart_77 rfl ?_
          refine g_aload_n C d_M_apart_78 rfl rfl ?_
          refine g_get C 0 27 i_M wY_0 rfl (by decide) k_M_66 rfl rfl d_M_apart_79 rfl ?_
          refine g_iconst (z := 0) C d_M_apart_82 rfl rfl ?_
          refine g_iconst (z := 0) C d_M_apart_83 rfl rfl ?_
          refine g_iast C 19 0 wY_19 rfl (by omega) (by omega) (by decide) wY_s19 d_M_apart_84 rfl ?_
          subst e_t0
          subst e_d0
          obtain ⟨ko, kw⟩ := okR_sp (u := u) (v := v) hG (by omega)
          have eA : eqx [24, 25, 26, 27] S5 (us (us (us (us S5 24 0 0) 25 0 0) 26 0 0) 27 0 0) := eqx_us (eqx_us (eqx_us (eqx_us eqx_rf (by decide)) (by decide)) (by decide)) (by decide)
          have hK5 : KR S5 (S 4) (S 3) (spS S u v) := by
            refine ⟨hp5.2.1, fun i hi => ?_⟩
            have hq := hp5.2.2 i hi
            rw [hp5.1 4 (by decide), hp5.1 5 (by decide), hp5.1 3 (by decide)] at hq
            exact ⟨hq.1, hq.2.2.2.2.1, hq.2.2.2.2.2⟩
          have en : ((n.toNat : Nat) : Int) = n := by omega
          refine GG.lvs (lv' := [(5, .int (iI (-1))), (6, .int (iI ((0 : Nat) : Int))), (0, .ref (a 0)), (1, .int (iI u)), (2, .int (iI v)), (3, .int (iI ((n.toNat : Nat) : Int))), (4, .int (iI y))]) (by rw [en]; simp [lk]) ?_
          refine lv_apart (W := S 4) (T := S 3) (R := spS S u v) (by omega) (by omega) hl58 ko kw C n.toNat (by omega) 0 (by omega) _ 0 _ (-1) 0 [] (Nat.zero_le _) (Nat.le_add_left _ _) ⟨?_, ?_, ?_, ?_⟩ (by omega) (by omega) (fun Q hQ => by cases hQ) (KR_eq eA hK5) (fun S6 hA6 t6 ht6 hb6 => ?_)
          · rw [us_n (by decide), us_n (by decide), us_n (by decide), us_s]; exact up_s
          · rw [us_n (by decide), us_n (by decide), us_s]; exact up_s
          · rw [us_n (by decide), us_s]; exact up_s
          · rw [us_s]; exact up_s
          obtain ⟨d2, e_d2⟩ : ∃ z : Int, z = ((0 : Nat) : Int) + (-1) := ⟨_, rfl⟩
          refine g_iinc (q := 1) (z := d2) (lv' := [(6, .int (iI d2)), (5, .int (iI t6)), (0, .ref (a 0)), (1, .int (iI u)), (2, .int (iI v)), (3, .int (iI ((n.toNat : Nat) : Int))), (4, .int (iI y))]) C d_M_apart_151 rfl e_d2.symm (by decide) rfl rfl ?_
          refine g_iload C d_M_apart_154 rfl rfl ?_
          refine g_if_lt (tgt := 356) C d_M_apart_156 (by decide) rfl (by omega) (fun h156 => ?_) (fun h156 => absurd h156 (by omega))
          refine g_goto (tgt := 85) C d_M_apart_356 (by decide) ?_
          refine g_iload C d_M_apart_85 rfl rfl ?_
          refine g_if_lt (tgt := 359) C d_M_apart_87 (by decide) rfl (by omega) (fun h87 => ?_) (fun h87 => absurd h87 (by omega))
          refine g_iload C d_M_apart_359 rfl rfl ?_
          refine g_iret C hr hk d_M_apart_361 ⟨_, rfl, ?_⟩
          refine Or.inr ⟨by omega, eqx_tr (eqx_tr (eqx_mono hp5.1 (by decide)) (eqx_mono eA (by decide))) (eqx_mono hA6.1 (by decide)), r4, hb4, hq4.2.2.2.1, hq4.2.2.2.2, Or.inr ⟨h40, ht6⟩⟩
        · refine g_iconst (z := (-1)) C d_M_apart_43 rfl rfl ?_
          refine g_iret C hr hk d_M_apart_44 ⟨_, rfl, ?_⟩
          exact Or.inr ⟨by omega, eqx_rf, r4, hb4, hq4.2.2.2.1, hq4.2.2.2.2, Or.inl ⟨h40, rfl⟩⟩
      · refine g_bipush (z := (-2)) C d_M_apart_28 rfl (by decide) ?_
        refine g_iret C hr hk d_M_apart_30 ⟨_, rfl, ?_⟩
        exact Or.inl ⟨by omega, rfl, rfl⟩

