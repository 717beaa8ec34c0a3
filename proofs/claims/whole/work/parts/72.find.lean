/-! the reference: all paths are found -/
/-- node j of the way pre from A -/
def ndA (T : Int → Int) (A : Int) (pre : List Int) (j : Nat) : Int := if j = 0 then A else T (pre.getD (j - 1) 0)
theorem ndA_old {T : Int → Int} {A k : Int} {pre : List Int} {j : Nat} (h : j ≤ pre.length) : ndA T A (pre ++ [k]) j = ndA T A pre j := by
  unfold ndA
  by_cases e : j = 0
  · rw [if_pos e, if_pos e]
  · rw [if_neg e, if_neg e]
    have : j - 1 < pre.length := by omega
    simp [List.getElem?_append_left this]
theorem ndA_new {T : Int → Int} {A k : Int} {pre : List Int} : ndA T A (pre ++ [k]) (pre.length + 1) = T k := by
  unfold ndA
  rw [if_neg (by omega)]
  simp
theorem getD_old {k : Int} {pre : List Int} {j : Nat} (h : j < pre.length) : (pre ++ [k]).getD j 0 = pre.getD j 0 := by
  simp [List.getElem?_append_left h]
theorem getD_new {k : Int} {pre : List Int} : (pre ++ [k]).getD pre.length 0 = k := by simp
/-- what is still found from u by the arcs from k on -/
def RSf (n : Nat) (F T Sh : Int → Int) (b : Int) (d : Nat) (u : Int) (seen : List Int) (k : Nat) : List (List Int) := ((dk n).drop k).flatMap (db F T Sh u seen (fun v => df n F T Sh b d v (u :: seen)))
theorem RSf_end {n : Nat} {F T Sh : Int → Int} {b : Int} {d : Nat} {u : Int} {seen : List Int} : RSf n F T Sh b d u seen n = [] := by
  unfold RSf; rw [dk_drop_n]; rfl
theorem RSf_skip {n : Nat} {F T Sh : Int → Int} {b : Int} {d : Nat} {u : Int} {seen : List Int} {k : Nat} (hk : k < n) (h : ¬ (F k = u ∧ Sh k = 0 ∧ T k ∉ u :: seen)) : RSf n F T Sh b d u seen k = RSf n F T Sh b d u seen (k + 1) := by
  unfold RSf; rw [dk_drop hk, List.flatMap_cons]; unfold db; rw [if_neg h]; rfl
theorem RSf_take {n : Nat} {F T Sh : Int → Int} {b : Int} {d : Nat} {u : Int} {seen : List Int} {k : Nat} (hk : k < n) (h : F k = u ∧ Sh k = 0 ∧ T k ∉ u :: seen) : RSf n F T Sh b d u seen k = (df n F T Sh b d (T k) (u :: seen)).map (fun P => (k : Int) :: P) ++ RSf n F T Sh b d u seen (k + 1) := by
  unfold RSf; rw [dk_drop hk, List.flatMap_cons]; congr 1; unfold db; rw [if_pos h]
theorem KP_eq {S S' : Nat → Int → Int} {R : List (List Int)} (h : ∀ k, k = 3 ∨ k = 4 ∨ k = 5 ∨ (7 ≤ k ∧ k ≤ 13) → S' k = S k) (g : KP S R) : KP S' R := by
  unfold KP ENT at *
  rw [h 3 (by omega), h 4 (by omega), h 5 (by omega), h 7 (by omega), h 8 (by omega), h 9 (by omega), h 10 (by omega), h 11 (by omega), h 12 (by omega), h 13 (by omega)]
  exact g
theorem KP_us {S : Nat → Int → Int} {R : List (List Int)} {k : Nat} {z v : Int} (hk : 14 ≤ k) (g : KP S R) : KP (us S k z v) R := KP_eq (fun j hj => us_n (by omega)) g
abbrev c9 : List Nat := [7, 8, 9, 10, 11, 12, 13, 22, 23]
/-- on the way: pre are the arcs taken, k the next one to try, R what is kept -/
def FV (S0 S : Nat → Int → Int) (A : Int) (pre : List Int) (k : Nat) (R : List (List Int)) : Prop := eqx c9 S0 S ∧ S 22 (pre.length : Int) = k ∧ (∀ j : Nat, j < pre.length → S 22 j = pre.getD j 0) ∧ (∀ j : Nat, j ≤ pre.length → S 23 j = ndA (S0 3) A pre j) ∧ KP S R ∧ R.Pairwise (fun P Q => cd (S0 4) P ≤ cd (S0 4) Q) ∧ ∀ Q, Q ∈ R → ok5 Q
def PS (S0 : Nat → Int → Int) (A b : Int) (pre seen : List Int) (u : Int) : Prop := u = ndA (S0 3) A pre pre.length ∧ seen.length = pre.length ∧ (u :: seen).Nodup ∧ (∀ v, v ∈ u :: seen → (0 ≤ v ∧ v < 8) ∧ v ≠ b) ∧ ∀ k, k ∈ pre → 0 ≤ k ∧ k < S0 1 0
theorem PS_len {S0 : Nat → Int → Int} {A b u : Int} {pre seen : List Int} (h : PS S0 A b pre seen u) (hb : 0 ≤ b ∧ b < 8) : pre.length ≤ 6 := by
  obtain ⟨h1, h2, h3, h4, h5⟩ := h
  have hn : (b :: u :: seen).Nodup := List.nodup_cons.mpr ⟨fun q => (h4 b q).2 rfl, h3⟩
  have := hn.length_le_of_subset (l₂ := dk 8) (fun v hv => dk_mem.mpr (by
    rcases List.mem_cons.mp hv with rfl | hv
    · exact hb
    · exact (h4 v hv).1))
  rw [dk_len] at this
  simp only [List.length_cons] at this
  omega
theorem PS_down {S0 : Nat → Int → Int} {A b u : Int} {pre seen : List Int} {k : Nat} (h : PS S0 A b pre seen u) (hk : (k : Int) < S0 1 0) (hT : 0 ≤ S0 3 k ∧ S0 3 k < 8) (hs : S0 3 k ∉ u :: seen) (hb : S0 3 k ≠ b) : PS S0 A b (pre ++ [(k : Int)]) (u :: seen) (S0 3 k) := by
  obtain ⟨h1, h2, h3, h4, h5⟩ := h
  refine ⟨?_, by simp; omega, List.nodup_cons.mpr ⟨hs, h3⟩, fun v hv => ?_, fun j hj => ?_⟩
  · rw [show (pre ++ [(k : Int)]).length = pre.length + 1 by simp, ndA_new]
  · rcases List.mem_cons.mp hv with rfl | hv
    · exact ⟨hT, hb⟩
    · exact h4 v hv
  · rcases List.mem_append.mp hj with hj | hj
    · exact h5 j hj
    · have : j = k := by simpa using hj
      omega
theorem FV_next {S0 S : Nat → Int → Int} {A : Int} {pre : List Int} {k : Nat} {R : List (List Int)} (h : FV S0 S A pre k R) : FV S0 (us S 22 (pre.length : Int) ((k : Int) + 1)) A pre (k + 1) R := by
  obtain ⟨h1, h2, h3, h4, h5, h6, h7⟩ := h
  refine ⟨eqx_us h1 (by decide), by rw [us_s, up_s]; omega, fun j hj => ?_, fun j hj => ?_, KP_us (by omega) h5, h6, h7⟩
  · rw [us_s, up_n (by omega)]; exact h3 j hj
  · rw [us_n (by omega)]; exact h4 j hj
theorem FV_down {S0 S : Nat → Int → Int} {A : Int} {pre : List Int} {k : Nat} {R : List (List Int)} (h : FV S0 S A pre k R) : FV S0 (us (us S 23 ((pre.length : Int) + 1) (S0 3 k)) 22 ((pre.length : Int) + 1) 0) A (pre ++ [(k : Int)]) 0 R := by
  obtain ⟨h1, h2, h3, h4, h5, h6, h7⟩ := h
  have hl : (pre ++ [(k : Int)]).length = pre.length + 1 := by simp
  refine ⟨eqx_us (eqx_us h1 (by decide)) (by decide), by rw [us_s, hl, show ((pre.length + 1 : Nat) : Int) = (pre.length : Int) + 1 by omega, up_s]; rfl, fun j hj => ?_, fun j hj => ?_, KP_us (by omega) (KP_us (by omega) h5), h6, h7⟩
  · rw [hl] at hj
    rw [us_s, up_n (by omega), us_n (by omega)]
    by_cases e : j = pre.length
    · subst e; rw [getD_new]; exact h2
    · rw [getD_old (by omega)]; exact h3 j (by omega)
  · rw [hl] at hj
    rw [us_n (by omega), us_s]
    by_cases e : j = pre.length + 1
    · subst e; rw [ndA_new, show ((pre.length + 1 : Nat) : Int) = (pre.length : Int) + 1 by omega, up_s]
    · rw [up_n (by omega), ndA_old (by omega)]; exact h4 j (by omega)
theorem FV_up {S0 S : Nat → Int → Int} {A : Int} {pre : List Int} {k n : Nat} {R : List (List Int)} (h : FV S0 S A (pre ++ [(k : Int)]) n R) : S 22 (pre.length : Int) = k ∧ FV S0 (us S 22 (pre.length : Int) ((k : Int) + 1)) A pre (k + 1) R := by
  obtain ⟨h1, h2, h3, h4, h5, h6, h7⟩ := h
  have hl : (pre ++ [(k : Int)]).length = pre.length + 1 := by simp
  refine ⟨by rw [h3 pre.length (by omega), getD_new], eqx_us h1 (by decide), by rw [us_s, up_s]; omega, fun j hj => ?_, fun j hj => ?_, KP_us (by omega) h5, h6, h7⟩
  · rw [us_s, up_n (by omega), h3 j (by omega), getD_old hj]
  · rw [us_n (by omega), h4 j (by omega), ndA_old hj]
theorem bs_clr {v : Int} {L : List Int} (hv : 0 ≤ v) (h : v ∉ L) (hL : ∀ k, k ∈ L → 0 ≤ k) : bs (v :: L) ^^^ (bs (v :: L) &&& 2 ^ v.toNat) = bs L := by
  apply Nat.eq_of_testBit_eq
  intro i
  simp only [bs, Nat.testBit_xor, Nat.testBit_and, Nat.testBit_or, Nat.testBit_two_pow]
  by_cases e : v.toNat = i
  · have hb : (bs L).testBit i = false := by
      cases hq : (bs L).testBit i with
      | false => rfl
      | true =>
        have := (bs_tb L i hL).mp hq
        rw [← e, show ((v.toNat : Nat) : Int) = v by omega] at this
        exact absurd this h
    simp [e, hb]
  · simp [e]
theorem GJ_eq {S S' : Nat → Int → Int} (h : ∀ k, k < 7 → S' k = S k) (g : GJ S) : GJ S' := by
  unfold GJ at *
  rw [h 0 (by omega), h 1 (by omega), h 2 (by omega), h 3 (by omega), h 4 (by omega), h 5 (by omega), h 6 (by omega)]
  exact g
theorem FV_keep {S0 S S1 : Nat → Int → Int} {A : Int} {pre : List Int} {k : Nat} {R R' : List (List Int)} (h : FV S0 S A pre k R) (e : eqx [7, 8, 9, 10, 11, 12, 13] S S1) (g : KP S1 R') (gp : R'.Pairwise (fun P Q => cd (S 4) P ≤ cd (S 4) Q)) (go : ∀ Q, Q ∈ R' → ok5 Q) : FV S0 S1 A pre k R' := by
  obtain ⟨h1, h2, h3, h4, h5, h6, h7⟩ := h
  have e22 : S1 22 = S 22 := e 22 (by decide)
  have e23 : S1 23 = S 23 := e 23 (by decide)
  rw [h1 4 (by decide)] at gp
  exact ⟨eqx_tr h1 (eqx_mono e (by simp)), by rw [e22]; exact h2, by rw [e22]; exact h3, by rw [e23]; exact h4, g, gp, go⟩

set_option maxRecDepth 100000 in
set_option maxHeartbeats 4000000 in
theorem find_pop {l : Launch} {D : va_G} {a : Nat → Nat} {ki kz kl kq : ClassId} {p : Program} {e : Env} {s : State} {m : MethodId} {args : Array Value} {below : List Frame} {meth : Method} {c : Code} {S0 : Nat → Int → Int} {Q : State → Prop} {A b : Int} {S : Nat → Int → Int} {q k : Nat} {v : Int} {L : List Int} (C : CX p s m args c b_M_find 6 "NextPathsModel" TT D cls (tyz ki kz kl kq)) (hr : meth.sig.returnType = none) (hk : meth.locks = false) (hn : 0 ≤ S 1 0 ∧ S 1 0 ≤ 20) (hq : q ≤ 6) (ht : S 22 ((q : Int) + 1) = S 1 0) (hs : S 23 ((q : Int) + 1) = v) (hv : 0 ≤ v ∧ v < 8) (hL : v ∉ L) (hL0 : ∀ k, k ∈ L → 0 ≤ k) (hq0 : S 22 (q : Int) = k) (hc : GG p l e rm_M_find s m args below meth c D cls (adr (wY a ki kz kl kq S0)) 6 0 0 Q (wY a ki kz kl kq) (us S 22 (q : Int) ((k : Int) + 1)) [(3, .int (iI (q : Int))), (4, .int (iI ((bs L : Nat) : Int))), (0, .ref (a 0)), (1, .int (iI A)), (2, .int (iI b))] 26 []) : GG p l e rm_M_find s m args below meth c D cls (adr (wY a ki kz kl kq S0)) 6 0 0 Q (wY a ki kz kl kq) S [(3, .int (iI ((q : Int) + 1))), (4, .int (iI ((bs (v :: L) : Nat) : Int))), (0, .ref (a 0)), (1, .int (iI A)), (2, .int (iI b))] 26 [] := by
  refine g_iload_n C d_M_find_26 rfl rfl ?_
  refine g_if_lt (tgt := 208) C d_M_find_27 (by decide) rfl (by omega) (fun h27 => ?_) (fun h27 => ?_)
  · exact absurd h27 (by omega)
  · refine g_aload_n C d_M_find_30 rfl rfl ?_
    refine g_get C 0 22 i_M wY_0 rfl (by decide) k_M_51 rfl rfl d_M_find_31 rfl ?_
    refine g_iload_n C d_M_find_34 rfl rfl ?_
    refine g_iald C 14 0 wY_14 rfl (by omega) (by omega) (by decide) d_M_find_35 rfl ?_
    refine g_v (z' := S 1 0) ht ?_
    refine g_nm (fun k5 e_k5 => ?_)
    refine g_istore (lv' := [(5, .int (iI k5)), (3, .int (iI ((q : Int) + 1))), (4, .int (iI ((bs (v :: L) : Nat) : Int))), (0, .ref (a 0)), (1, .int (iI A)), (2, .int (iI b))]) C d_M_find_36 (by decide) rfl rfl ?_
    refine g_iload C d_M_find_38 rfl rfl ?_
    refine g_aload_n C d_M_find_40 rfl rfl ?_
    refine g_get C 0 1 i_M wY_0 rfl (by decide) k_M_73 rfl rfl d_M_find_41 rfl ?_
    refine g_icmp_ne (tgt := 82) C d_M_find_44 (by decide) rfl (by omega) (by omega) (fun h44 => ?_) (fun h44 => ?_)
    · exact absurd e_k5 h44
    · refine g_iload C d_M_find_47 rfl rfl ?_
      refine g_iconst (z := 1) C d_M_find_49 rfl rfl ?_
      refine g_aload_n C d_M_find_50 rfl rfl ?_
      refine g_get C 0 23 i_M wY_0 rfl (by decide) k_M_54 rfl rfl d_M_find_51 rfl ?_
      refine g_iload_n C d_M_find_54 rfl rfl ?_
      refine g_iald C 15 0 wY_15 rfl (by omega) (by omega) (by decide) d_M_find_55 rfl ?_
      refine g_v (z' := v) hs ?_
      refine g_ishl (z := ((2 ^ v.toNat : Nat) : Int)) C d_M_find_56 (ishl_ok hv.1 (by omega)) rfl ?_
      refine g_iconst (z := (-1)) C d_M_find_57 rfl rfl ?_
      refine g_ixor (z := (iI ((2 ^ v.toNat : Nat) : Int) ^^^ iI (-1)).toInt) C d_M_find_58 (Int32.ofInt_toInt _).symm rfl ?_
      refine g_iand (z := ((bs L : Nat) : Int)) C d_M_find_59 (by rw [iclr_ok, bs_clr hv.1 hL hL0]) rfl ?_
      refine g_nm (fun s2 e_s2 => ?_)
      refine g_istore (lv' := [(4, .int (iI s2)), (5, .int (iI k5)), (3, .int (iI ((q : Int) + 1))), (0, .ref (a 0)), (1, .int (iI A)), (2, .int (iI b))]) C d_M_find_60 (by decide) rfl rfl ?_
      obtain ⟨d2, e_d2⟩ : ∃ z : Int, z = ((q : Int) + 1) + (-1) := ⟨_, rfl⟩
      refine g_iinc (q := 2) (z := d2) (lv' := [(3, .int (iI d2)), (4, .int (iI s2)), (5, .int (iI k5)), (0, .ref (a 0)), (1, .int (iI A)), (2, .int (iI b))]) C d_M_find_62 rfl e_d2.symm (by decide) rfl rfl ?_
      refine g_iload_n C d_M_find_65 rfl rfl ?_
      refine g_if_lt (tgt := 205) C d_M_find_66 (by decide) rfl (by omega) (fun h66 => ?_) (fun h66 => ?_)
      · exact absurd h66 (by omega)
      · refine g_aload_n C d_M_find_69 rfl rfl ?_
        refine g_get C 0 22 i_M wY_0 rfl (by decide) k_M_51 rfl rfl d_M_find_70 rfl ?_
        refine g_iload_n C d_M_find_73 rfl rfl ?_
        refine g_dup2 C d_M_find_74 rfl rfl rfl ?_
        refine g_iald C 14 0 wY_14 rfl (by omega) (by omega) (by decide) d_M_find_75 rfl ?_
        refine g_v (z' := (k : Int)) (by rw [show d2 = (q : Int) by omega]; exact hq0) ?_
        refine g_iconst (z := 1) C d_M_find_76 rfl rfl ?_
        refine g_iadd C d_M_find_77 rfl rfl ?_
        refine g_iast C 14 0 wY_14 rfl (by omega) (by omega) (by decide) wY_s14 d_M_find_78 rfl ?_
        refine g_goto (tgt := 205) C d_M_find_79 (by decide) ?_
        refine g_goto (tgt := 26) C d_M_find_205 (by decide) ?_
        refine GG.lvs (lv' := [(3, .int (iI (q : Int))), (4, .int (iI ((bs L : Nat) : Int))), (0, .ref (a 0)), (1, .int (iI A)), (2, .int (iI b))]) (by rw [show d2 = (q : Int) by omega, e_s2]; simp [lk]) ?_
        rw [show d2 = (q : Int) by omega]
        exact hc

set_option maxRecDepth 100000 in
set_option maxHeartbeats 4000000 in
theorem lv_find {l : Launch} {D : va_G} {a : Nat → Nat} {ki kz kl kq : ClassId} {p : Program} {e : Env} {s : State} {m : MethodId} {args : Array Value} {below : List Frame} {meth : Method} {c : Code} {S0 : Nat → Int → Int} {Q : State → Prop} {A b : Int} (hG : GJ S0) (hb : 0 ≤ b ∧ b < 8) (C : CX p s m args c b_M_find 6 "NextPathsModel" TT D cls (tyz ki kz kl kq)) (hr : meth.sig.returnType = none) (hk : meth.locks = false) : ∀ (d : Nat) (u : Int) (seen pre : List Int), PS S0 A b pre seen u → pre.length + d = 6 → ∀ (j k : Nat) (R : List (List Int)) (S : Nat → Int → Int), k ≤ (S0 1 0).toNat → (S0 1 0).toNat ≤ k + j → FV S0 S A pre k R → R.length + (RSf (S0 1 0).toNat (S0 2) (S0 3) (S0 6) b d u seen k).length ≤ 1458 → (∀ (S' : Nat → Int → Int) (R' : List (List Int)), FV S0 S' A pre (S0 1 0).toNat R' → R'.Perm (R ++ (RSf (S0 1 0).toNat (S0 2) (S0 3) (S0 6) b d u seen k).map (fun P => pre ++ P)) → GG p l e rm_M_find s m args below meth c D cls (adr (wY a ki kz kl kq S0)) 6 0 0 Q (wY a ki kz kl kq) S' [(3, .int (iI (pre.length : Int))), (4, .int (iI ((bs (u :: seen) : Nat) : Int))), (0, .ref (a 0)), (1, .int (iI A)), (2, .int (iI b))] 26 []) → GG p l e rm_M_find s m args below meth c D cls (adr (wY a ki kz kl kq S0)) 6 0 0 Q (wY a ki kz kl kq) S [(3, .int (iI (pre.length : Int))), (4, .int (iI ((bs (u :: seen) : Nat) : Int))), (0, .ref (a 0)), (1, .int (iI A)), (2, .int (iI b))] 26 [] := by
  intro d
  induction d using Nat.strongRecOn with
  | ind d ihd =>
  intro u seen pre hPS hd j
  induction j with
  | zero =>
    intro k R S hk1 hk2 hF hlen hc
    have hkn : k = (S0 1 0).toNat := by omega
    subst hkn
    exact hc S R hF (by rw [RSf_end]; simp)
  | succ j ih =>
    intro k R S hk1 hk2 hF hlen hc
    by_cases hkn : k = (S0 1 0).toNat
    · subst hkn
      exact hc S R hF (by rw [RSf_end]; simp)
    have hl6 := PS_len hPS hb
    have hn20 := hG.2.1
    refine g_iload_n C d_M_find_26 rfl rfl ?_
    refine g_if_lt (tgt := 208) C d_M_find_27 (by decide) rfl (by omega) (fun h27 => ?_) (fun h27 => ?_)
    · exact absurd h27 (by omega)
    · obtain ⟨f1, f2, f3, f4, f5, f6, f7⟩ := hF
      have e0 : S 0 = S0 0 := f1 0 (by decide)
      have e1 : S 1 = S0 1 := f1 1 (by decide)
      have e2 : S 2 = S0 2 := f1 2 (by decide)
      have e3 : S 3 = S0 3 := f1 3 (by decide)
      have e4 : S 4 = S0 4 := f1 4 (by decide)
      have e6 : S 6 = S0 6 := f1 6 (by decide)
      have hg := hG.2.2.2.2.1 k
      have f23 := f4 pre.length (Nat.le_refl _)
      rw [← hPS.1] at f23
      have hu8 := (hPS.2.2.2.1 u List.mem_cons_self).1
      have hbl : bs (u :: seen) < 2147483648 := Nat.lt_trans (bs_lt (m := 8) _ (fun v hv => (hPS.2.2.2.1 v hv).1)) (by decide)
      have htb := bs_tb (u :: seen) (S0 3 k).toNat (fun v hv => (hPS.2.2.2.1 v hv).1.1)
      rw [show (((S0 3 k).toNat : Nat) : Int) = S0 3 k by omega] at htb
      refine g_aload_n C d_M_find_30 rfl rfl ?_
      refine g_get C 0 22 i_M wY_0 rfl (by decide) k_M_51 rfl rfl d_M_find_31 rfl ?_
      refine g_iload_n C d_M_find_34 rfl rfl ?_
      refine g_iald C 14 0 wY_14 rfl (by omega) (by omega) (by decide) d_M_find_35 rfl ?_
      refine g_v (z' := (k : Int)) f2 ?_
      refine g_istore (lv' := [(5, .int (iI (k : Int))), (3, .int (iI (pre.length : Int))), (4, .int (iI ((bs (u :: seen) : Nat) : Int))), (0, .ref (a 0)), (1, .int (iI A)), (2, .int (iI b))]) C d_M_find_36 (by decide) rfl rfl ?_
      refine g_iload C d_M_find_38 rfl rfl ?_
      refine g_aload_n C d_M_find_40 rfl rfl ?_
      refine g_get C 0 1 i_M wY_0 rfl (by decide) k_M_73 rfl rfl d_M_find_41 rfl ?_
      refine g_v (z' := S0 1 0) (by rw [e1]) ?_
      refine g_icmp_ne (tgt := 82) C d_M_find_44 (by decide) rfl (by omega) (by omega) (fun h44 => ?_) (fun h44 => ?_)
      · refine g_aload_n C d_M_find_82 rfl rfl ?_
        refine g_get C 0 6 i_M wY_0 rfl (by decide) k_M_22 rfl rfl d_M_find_83 rfl ?_
        refine g_iload C d_M_find_86 rfl rfl ?_
        refine g_zald C 5 1 wY_5 rfl (by omega) (by omega) (by decide) d_M_find_88 rfl ?_
        refine g_v (z' := S0 6 k) (by rw [e6]) ?_
        refine g_if_ne (tgt := 124) C d_M_find_89 (by decide) rfl (by omega) (fun h89 => ?_) (fun h89 => ?_)
        · refine g_aload_n C d_M_find_124 rfl rfl ?_
          refine g_get C 0 22 i_M wY_0 rfl (by decide) k_M_51 rfl rfl d_M_find_125 rfl ?_
          refine g_iload_n C d_M_find_128 rfl rfl ?_
          refine g_dup2 C d_M_find_129 rfl rfl rfl ?_
          refine g_iald C 14 0 wY_14 rfl (by omega) (by omega) (by decide) d_M_find_130 rfl ?_
          refine g_v (z' := (k : Int)) f2 ?_
          refine g_iconst (z := 1) C d_M_find_131 rfl rfl ?_
          refine g_iadd C d_M_find_132 rfl rfl ?_
          refine g_iast C 14 0 wY_14 rfl (by omega) (by omega) (by decide) wY_s14 d_M_find_133 rfl ?_
          refine g_goto (tgt := 205) C d_M_find_134 (by decide) ?_
          refine g_goto (tgt := 26) C d_M_find_205 (by decide) ?_
          have hno : ¬ (S0 2 k = u ∧ S0 6 k = 0 ∧ S0 3 k ∉ u :: seen) := by
            first
              | exact fun q => h89 q.2.1
              | exact fun q => h105 q.1
              | exact fun q => q.2.2 (htb.mp (tb_1.mp h121))
          rw [RSf_skip (by omega) hno] at hlen hc
          refine GG.lvs (lv' := [(3, .int (iI (pre.length : Int))), (4, .int (iI ((bs (u :: seen) : Nat) : Int))), (0, .ref (a 0)), (1, .int (iI A)), (2, .int (iI b))]) (by simp [lk]) ?_
          exact ih (k + 1) R _ (by omega) (by omega) (FV_next ⟨f1, f2, f3, f4, f5, f6, f7⟩) hlen hc
        · refine g_aload_n C d_M_find_92 rfl rfl ?_
          refine g_get C 0 2 i_M wY_0 rfl (by decide) k_M_7 rfl rfl d_M_find_93 rfl ?_
          refine g_iload C d_M_find_96 rfl rfl ?_
          refine g_iald C 1 0 wY_1 rfl (by omega) (by omega) (by decide) d_M_find_98 rfl ?_
          refine g_v (z' := S0 2 k) (by rw [e2]) ?_
          refine g_aload_n C d_M_find_99 rfl rfl ?_
          refine g_get C 0 23 i_M wY_0 rfl (by decide) k_M_54 rfl rfl d_M_find_100 rfl ?_
          refine g_iload_n C d_M_find_103 rfl rfl ?_
          refine g_iald C 15 0 wY_15 rfl (by omega) (by omega) (by decide) d_M_find_104 rfl ?_
          refine g_v (z' := u) f23 ?_
          refine g_icmp_ne (tgt := 124) C d_M_find_105 (by decide) rfl (by omega) (by omega) (fun h105 => ?_) (fun h105 => ?_)
          · refine g_aload_n C d_M_find_124 rfl rfl ?_
            refine g_get C 0 22 i_M wY_0 rfl (by decide) k_M_51 rfl rfl d_M_find_125 rfl ?_
            refine g_iload_n C d_M_find_128 rfl rfl ?_
            refine g_dup2 C d_M_find_129 rfl rfl rfl ?_
            refine g_iald C 14 0 wY_14 rfl (by omega) (by omega) (by decide) d_M_find_130 rfl ?_
            refine g_v (z' := (k : Int)) f2 ?_
            refine g_iconst (z := 1) C d_M_find_131 rfl rfl ?_
            refine g_iadd C d_M_find_132 rfl rfl ?_
            refine g_iast C 14 0 wY_14 rfl (by omega) (by omega) (by decide) wY_s14 d_M_find_133 rfl ?_
            refine g_goto (tgt := 205) C d_M_find_134 (by decide) ?_
            refine g_goto (tgt := 26) C d_M_find_205 (by decide) ?_
            have hno : ¬ (S0 2 k = u ∧ S0 6 k = 0 ∧ S0 3 k ∉ u :: seen) := by
              first
                | exact fun q => h89 q.2.1
                | exact fun q => h105 q.1
                | exact fun q => q.2.2 (htb.mp (tb_1.mp h121))
            rw [RSf_skip (by omega) hno] at hlen hc
            refine GG.lvs (lv' := [(3, .int (iI (pre.length : Int))), (4, .int (iI ((bs (u :: seen) : Nat) : Int))), (0, .ref (a 0)), (1, .int (iI A)), (2, .int (iI b))]) (by simp [lk]) ?_
            exact ih (k + 1) R _ (by omega) (by omega) (FV_next ⟨f1, f2, f3, f4, f5, f6, f7⟩) hlen hc
          · refine g_iload C d_M_find_108 rfl rfl ?_
            refine g_aload_n C d_M_find_110 rfl rfl ?_
            refine g_get C 0 3 i_M wY_0 rfl (by decide) k_M_13 rfl rfl d_M_find_111 rfl ?_
            refine g_iload C d_M_find_114 rfl rfl ?_
            refine g_iald C 2 0 wY_2 rfl (by omega) (by omega) (by decide) d_M_find_116 rfl ?_
            refine g_v (z' := S0 3 k) (by rw [e3]) ?_
            refine g_ishr (z := ((bs (u :: seen) / 2 ^ (S0 3 k).toNat : Nat) : Int)) C d_M_find_117 (ishr_ok hbl (by omega) (by omega)) rfl ?_
            refine g_iconst (z := 1) C d_M_find_118 rfl rfl ?_
            refine g_iand (z := ((bs (u :: seen) / 2 ^ (S0 3 k).toNat % 2 : Nat) : Int)) C d_M_find_119 iand1_ok rfl ?_
            refine g_iconst (z := 1) C d_M_find_120 rfl rfl ?_
            refine g_icmp_ne (tgt := 137) C d_M_find_121 (by decide) rfl (by have := tb_r (a := bs (u :: seen)) (k := S0 3 k); omega) (by omega) (fun h121 => ?_) (fun h121 => ?_)
            · refine g_aload_n C d_M_find_137 rfl rfl ?_
              refine g_get C 0 3 i_M wY_0 rfl (by decide) k_M_13 rfl rfl d_M_find_138 rfl ?_
              refine g_iload C d_M_find_141 rfl rfl ?_
              refine g_iald C 2 0 wY_2 rfl (by omega) (by omega) (by decide) d_M_find_143 rfl ?_
              refine g_v (z' := S0 3 k) (by rw [e3]) ?_
              refine g_iload_n C d_M_find_144 rfl rfl ?_
              refine g_icmp_ne (tgt := 168) C d_M_find_145 (by decide) rfl (by omega) (by omega) (fun h145 => ?_) (fun h145 => ?_)
              · have hin : S0 2 k = u ∧ S0 6 k = 0 ∧ S0 3 k ∉ u :: seen := ⟨by omega, by omega, fun q => h121 (tb_1.mpr (htb.mpr q))⟩
                have hPd := PS_down (k := k) hPS (by omega) (by omega) hin.2.2 (by omega)
                have hPl := PS_len hPd hb
                simp only [List.length_append, List.length_cons, List.length_nil] at hPl
                obtain ⟨d', rfl⟩ : ∃ d', d = d' + 1 := ⟨d - 1, by omega⟩
                rw [RSf_take (by omega) hin, df_s (by omega)] at hlen hc
                simp only [List.length_append, List.length_map] at hlen
                obtain ⟨d2, e_d2⟩ : ∃ z : Int, z = (pre.length : Int) + 1 := ⟨_, rfl⟩
                refine g_iinc (q := 1) (z := d2) (lv' := [(3, .int (iI d2)), (5, .int (iI (k : Int))), (4, .int (iI ((bs (u :: seen) : Nat) : Int))), (0, .ref (a 0)), (1, .int (iI A)), (2, .int (iI b))]) C d_M_find_168 rfl e_d2.symm (by decide) rfl rfl ?_
                refine g_aload_n C d_M_find_171 rfl rfl ?_
                refine g_get C 0 23 i_M wY_0 rfl (by decide) k_M_54 rfl rfl d_M_find_172 rfl ?_
                refine g_iload_n C d_M_find_175 rfl rfl ?_
                refine g_aload_n C d_M_find_176 rfl rfl ?_
                refine g_get C 0 3 i_M wY_0 rfl (by decide) k_M_13 rfl rfl d_M_find_177 rfl ?_
                refine g_iload C d_M_find_180 rfl rfl ?_
                refine g_iald C 2 0 wY_2 rfl (by omega) (by omega) (by decide) d_M_find_182 rfl ?_
                refine g_v (z' := S0 3 k) (by rw [e3]) ?_
                refine g_iast C 15 0 wY_15 rfl (by omega) (by omega) (by decide) wY_s15 d_M_find_183 rfl ?_
                refine g_iload C d_M_find_184 rfl rfl ?_
                refine g_iconst (z := 1) C d_M_find_186 rfl rfl ?_
                refine g_aload_n C d_M_find_187 rfl rfl ?_
                refine g_get C 0 3 i_M wY_0 rfl (by decide) k_M_13 rfl rfl d_M_find_188 rfl ?_
                refine g_iload C d_M_find_191 rfl rfl ?_
                refine g_iald C 2 0 wY_2 rfl (by omega) (by omega) (by decide) d_M_find_193 rfl ?_
                refine g_v (z' := S0 3 k) (by rw [us_n (by decide), e3]) ?_
                refine g_ishl (z := ((2 ^ (S0 3 k).toNat : Nat) : Int)) C d_M_find_194 (ishl_ok (by omega) (by omega)) rfl ?_
                refine g_ior (z := ((bs (u :: seen) ||| 2 ^ (S0 3 k).toNat : Nat) : Int)) C d_M_find_195 ior_ok rfl ?_
                refine g_nm (fun s2 e_s2 => ?_)
                refine g_istore (lv' := [(4, .int (iI s2)), (3, .int (iI d2)), (5, .int (iI (k : Int))), (0, .ref (a 0)), (1, .int (iI A)), (2, .int (iI b))]) C d_M_find_196 (by decide) rfl rfl ?_
                refine g_aload_n C d_M_find_198 rfl rfl ?_
                refine g_get C 0 22 i_M wY_0 rfl (by decide) k_M_51 rfl rfl d_M_find_199 rfl ?_
                refine g_iload_n C d_M_find_202 rfl rfl ?_
                refine g_iconst (z := 0) C d_M_find_203 rfl rfl ?_
                refine g_iast C 14 0 wY_14 rfl (by omega) (by omega) (by decide) wY_s14 d_M_find_204 rfl ?_
                refine g_goto (tgt := 26) C d_M_find_205 (by decide) ?_
                have hF2 := FV_down (k := k) ⟨f1, f2, f3, f4, f5, f6, f7⟩
                have hl2 : (((pre ++ [(k : Int)]).length : Nat) : Int) = (pre.length : Int) + 1 := by simp
                refine GG.lvs (lv' := [(3, .int (iI ((pre ++ [(k : Int)]).length : Int))), (4, .int (iI ((bs (S0 3 k :: u :: seen) : Nat) : Int))), (0, .ref (a 0)), (1, .int (iI A)), (2, .int (iI b))]) (by rw [hl2, show d2 = (pre.length : Int) + 1 by omega, e_s2, bs, Nat.or_comm]; simp [lk]) ?_
                rw [show d2 = (pre.length : Int) + 1 by omega]
                refine ihd d' (by omega) (S0 3 k) (u :: seen) (pre ++ [(k : Int)]) hPd (by simp; omega) (S0 1 0).toNat 0 R _ (by omega) (by omega) hF2 (by unfold RSf; rw [List.drop_zero]; omega) (fun S' R' hF' hp' => ?_)
                have hup := FV_up hF'
                have q1 := hF'.1 1 (by decide)
                have q2 := hF'.2.1
                have q3 := hF'.2.2.2.1 (pre.length + 1) (by simp)
                rw [ndA_new] at q3
                rw [hl2] at q2 ⊢
                have hpl := hp'.length_eq
                simp only [List.length_append, List.length_map] at hpl
                refine find_pop (k := k) C hr hk (by rw [q1]; exact hG.2.1) (by omega) (by rw [q2, q1]; omega) (by rw [← q3]; congr 1) (by omega) hin.2.2 (fun v hv => (hPS.2.2.2.1 v hv).1.1) hup.1 ?_
                refine ih (k + 1) R' _ (by omega) (by omega) hup.2 ?_ (fun S2 R2 hF2 hp2 => hc S2 R2 hF2 (hp2.trans ?_))
                · unfold RSf at hpl; rw [List.drop_zero] at hpl; omega
                · rw [List.map_append, ← List.append_assoc]
                  refine List.Perm.append_right _ (hp'.trans ?_)
                  unfold RSf
                  rw [List.drop_zero, List.map_map]
                  refine List.Perm.of_eq ?_
                  congr 1
                  refine List.map_congr_left (fun P _ => ?_)
                  simp
              · have hin : S0 2 k = u ∧ S0 6 k = 0 ∧ S0 3 k ∉ u :: seen := ⟨by omega, by omega, fun q => h121 (tb_1.mpr (htb.mpr q))⟩
                have hd : df (S0 1 0).toNat (S0 2) (S0 3) (S0 6) b d (S0 3 k) (u :: seen) = [[]] := by rw [show S0 3 k = b by omega, df_b]
                have hok1 : ok5 (pre ++ [(k : Int)]) := ⟨by simp; omega, fun j hj => by
                  rcases List.mem_append.mp hj with hj | hj
                  · have := hPS.2.2.2.2 j hj; omega
                  · have : j = k := by simpa using hj
                    omega⟩
                rw [RSf_take (by omega) hin, hd] at hlen hc
                simp only [List.map_cons, List.map_nil, List.length_append, List.length_cons, List.length_nil] at hlen
                refine g_aload_n C d_M_find_148 rfl rfl ?_
                refine g_iload_n C d_M_find_149 rfl rfl ?_
                refine g_iconst (z := 1) C d_M_find_150 rfl rfl ?_
                refine g_iadd (z := ((pre ++ [(k : Int)]).length : Int)) C d_M_find_151 (by simp) rfl ?_
                refine g_runV (wY_fix a ki kz kl kq) rfl (rn_V C (m_M_keep (P := pre ++ [(k : Int)]) (R := R) (GJ_eq (fun j hj => f1 j (by simp; omega)) hG) hok1 f5 (by omega) f7 (by rw [e4]; exact f6) (fun j hj => by
    rcases List.mem_append.mp hj with hj | hj
    · have := hPS.2.2.2.2 j hj; omega
    · have : j = k := by simpa using hj
      omega) (fun j hj => by
    simp only [List.length_append, List.length_cons, List.length_nil] at hj
    by_cases ej : j = pre.length
    · rw [ej, getD_new]; exact f2
    · rw [getD_old (by omega)]; exact f3 j (by omega)) (fun j hj0 hj => by
    simp only [List.length_append, List.length_cons, List.length_nil] at hj
    rw [f4 j (by omega), ndA, if_neg (by omega), e3, getD_old (by omega)])) 0 1 wY_0 rfl rfl kc_M_keep k_M_101 ki_M_keep kx_M_keep kn_M hy_M_keep ⟨rfl, rfl⟩ ⟨by decide, by decide⟩ ⟨Nat.le_refl _, Nat.le_refl _⟩ rfl rfl (Nat.le_of_ble_eq_true rfl) d_M_find_152) (fun S1 hp1 => ?_)
                refine g_aload_n C d_M_find_155 rfl rfl ?_
                refine g_get C 0 22 i_M wY_0 rfl (by decide) k_M_51 rfl rfl d_M_find_156 rfl ?_
                refine g_iload_n C d_M_find_159 rfl rfl ?_
                refine g_dup2 C d_M_find_160 rfl rfl rfl ?_
                refine g_iald C 14 0 wY_14 rfl (by omega) (by omega) (by decide) d_M_find_161 rfl ?_
                refine g_v (z' := (k : Int)) (by rw [hp1.1 22 (by decide)]; exact f2) ?_
                refine g_iconst (z := 1) C d_M_find_162 rfl rfl ?_
                refine g_iadd C d_M_find_163 rfl rfl ?_
                refine g_iast C 14 0 wY_14 rfl (by omega) (by omega) (by decide) wY_s14 d_M_find_164 rfl ?_
                refine g_goto (tgt := 205) C d_M_find_165 (by decide) ?_
                refine g_goto (tgt := 26) C d_M_find_205 (by decide) ?_
                obtain ⟨g1, R1, g2, g3, g4⟩ := hp1
                have go : ∀ Q, Q ∈ R1 → ok5 Q := fun Q hQ => by
                  rcases List.mem_cons.mp (g3.subset hQ) with rfl | q
                  · exact hok1
                  · exact f7 Q q
                have gl := g3.length_eq
                simp only [List.length_cons] at gl
                refine GG.lvs (lv' := [(3, .int (iI (pre.length : Int))), (4, .int (iI ((bs (u :: seen) : Nat) : Int))), (0, .ref (a 0)), (1, .int (iI A)), (2, .int (iI b))]) (by simp [lk]) ?_
                refine ih (k + 1) R1 _ (by omega) (by omega) (FV_next (FV_keep ⟨f1, f2, f3, f4, f5, f6, f7⟩ g1 g2 g4 go)) (by omega) (fun S' R' hF' hp' => hc S' R' hF' (hp'.trans ?_))
                simp only [List.map_cons, List.map_nil, List.map_append]
                refine (List.Perm.append_right _ g3).trans ?_
                simp only [List.cons_append, List.nil_append]
                exact List.perm_middle.symm
            · refine g_aload_n C d_M_find_124 rfl rfl ?_
              refine g_get C 0 22 i_M wY_0 rfl (by decide) k_M_51 rfl rfl d_M_find_125 rfl ?_
              refine g_iload_n C d_M_find_128 rfl rfl ?_
              refine g_dup2 C d_M_find_129 rfl rfl rfl ?_
              refine g_iald C 14 0 wY_14 rfl (by omega) (by omega) (by decide) d_M_find_130 rfl ?_
              refine g_v (z' := (k : Int)) f2 ?_
              refine g_iconst (z := 1) C d_M_find_131 rfl rfl ?_
              refine g_iadd C d_M_find_132 rfl rfl ?_
              refine g_iast C 14 0 wY_14 rfl (by omega) (by omega) (by decide) wY_s14 d_M_find_133 rfl ?_
              refine g_goto (tgt := 205) C d_M_find_134 (by decide) ?_
              refine g_goto (tgt := 26) C d_M_find_205 (by decide) ?_
              have hno : ¬ (S0 2 k = u ∧ S0 6 k = 0 ∧ S0 3 k ∉ u :: seen) := by
                first
                  | exact fun q => h89 q.2.1
                  | exact fun q => h105 q.1
                  | exact fun q => q.2.2 (htb.mp (tb_1.mp h121))
              rw [RSf_skip (by omega) hno] at hlen hc
              refine GG.lvs (lv' := [(3, .int (iI (pre.length : Int))), (4, .int (iI ((bs (u :: seen) : Nat) : Int))), (0, .ref (a 0)), (1, .int (iI A)), (2, .int (iI b))]) (by simp [lk]) ?_
              exact ih (k + 1) R _ (by omega) (by omega) (FV_next ⟨f1, f2, f3, f4, f5, f6, f7⟩) hlen hc
      · exact absurd h44 (by omega)

set_option maxRecDepth 100000 in
set_option maxHeartbeats 4000000 in
theorem find_end {l : Launch} {D : va_G} {a : Nat → Nat} {ki kz kl kq : ClassId} {p : Program} {e : Env} {s : State} {m : MethodId} {args : Array Value} {below : List Frame} {meth : Method} {c : Code} {S0 : Nat → Int → Int} {A b : Int} {S : Nat → Int → Int} {f : (Nat → Int → Int) → Prop} (C : CX p s m args c b_M_find 6 "NextPathsModel" TT D cls (tyz ki kz kl kq)) (hr : meth.sig.returnType = none) (hk : meth.locks = false) (hn : 0 ≤ S 1 0 ∧ S 1 0 ≤ 20) (ht : S 22 0 = S 1 0) (hs : S 23 0 = A) (hv : 0 ≤ A ∧ A < 8) (hc : f S) : GG p l e rm_M_find s m args below meth c D cls (adr (wY a ki kz kl kq S0)) 6 0 0 (MQ below (QcW D cls (wY a ki kz kl kq) S0 (pV f)) args s 0 0 (adr (wY a ki kz kl kq S0))) (wY a ki kz kl kq) S [(3, .int (iI 0)), (4, .int (iI ((bs [A] : Nat) : Int))), (0, .ref (a 0)), (1, .int (iI A)), (2, .int (iI b))] 26 [] := by
  refine g_iload_n C d_M_find_26 rfl rfl ?_
  refine g_if_lt (tgt := 208) C d_M_find_27 (by decide) rfl (by omega) (fun h27 => ?_) (fun h27 => ?_)
  · exact absurd h27 (by omega)
  · refine g_aload_n C d_M_find_30 rfl rfl ?_
    refine g_get C 0 22 i_M wY_0 rfl (by decide) k_M_51 rfl rfl d_M_find_31 rfl ?_
    refine g_iload_n C d_M_find_34 rfl rfl ?_
    refine g_iald C 14 0 wY_14 rfl (by omega) (by omega) (by decide) d_M_find_35 rfl ?_
    refine g_v (z' := S 1 0) ht ?_
    refine g_nm (fun k5 e_k5 => ?_)
    refine g_istore (lv' := [(5, .int (iI k5)), (3, .int (iI 0)), (4, .int (iI ((bs [A] : Nat) : Int))), (0, .ref (a 0)), (1, .int (iI A)), (2, .int (iI b))]) C d_M_find_36 (by decide) rfl rfl ?_
    refine g_iload C d_M_find_38 rfl rfl ?_
    refine g_aload_n C d_M_find_40 rfl rfl ?_
    refine g_get C 0 1 i_M wY_0 rfl (by decide) k_M_73 rfl rfl d_M_find_41 rfl ?_
    refine g_icmp_ne (tgt := 82) C d_M_find_44 (by decide) rfl (by omega) (by omega) (fun h44 => ?_) (fun h44 => ?_)
    · exact absurd e_k5 h44
    · refine g_iload C d_M_find_47 rfl rfl ?_
      refine g_iconst (z := 1) C d_M_find_49 rfl rfl ?_
      refine g_aload_n C d_M_find_50 rfl rfl ?_
      refine g_get C 0 23 i_M wY_0 rfl (by decide) k_M_54 rfl rfl d_M_find_51 rfl ?_
      refine g_iload_n C d_M_find_54 rfl rfl ?_
      refine g_iald C 15 0 wY_15 rfl (by omega) (by omega) (by decide) d_M_find_55 rfl ?_
      refine g_v (z' := A) hs ?_
      refine g_ishl (z := ((2 ^ A.toNat : Nat) : Int)) C d_M_find_56 (ishl_ok hv.1 (by omega)) rfl ?_
      refine g_iconst (z := (-1)) C d_M_find_57 rfl rfl ?_
      refine g_ixor (z := (iI ((2 ^ A.toNat : Nat) : Int) ^^^ iI (-1)).toInt) C d_M_find_58 (Int32.ofInt_toInt _).symm rfl ?_
      refine g_iand (z := ((bs [] : Nat) : Int)) C d_M_find_59 (by rw [iclr_ok, bs_clr hv.1 (by simp) (by simp)]) rfl ?_
      refine g_nm (fun s2 e_s2 => ?_)
      refine g_istore (lv' := [(4, .int (iI s2)), (5, .int (iI k5)), (3, .int (iI 0)), (0, .ref (a 0)), (1, .int (iI A)), (2, .int (iI b))]) C d_M_find_60 (by decide) rfl rfl ?_
      obtain ⟨d2, e_d2⟩ : ∃ z : Int, z = 0 + (-1) := ⟨_, rfl⟩
      refine g_iinc (q := 2) (z := d2) (lv' := [(3, .int (iI d2)), (4, .int (iI s2)), (5, .int (iI k5)), (0, .ref (a 0)), (1, .int (iI A)), (2, .int (iI b))]) C d_M_find_62 rfl e_d2.symm (by decide) rfl rfl ?_
      refine g_iload_n C d_M_find_65 rfl rfl ?_
      refine g_if_lt (tgt := 205) C d_M_find_66 (by decide) rfl (by omega) (fun h66 => ?_) (fun h66 => ?_)
      · refine g_goto (tgt := 26) C d_M_find_205 (by decide) ?_
        refine g_iload_n C d_M_find_26 rfl rfl ?_
        refine g_if_lt (tgt := 208) C d_M_find_27 (by decide) rfl (by omega) (fun h27b => ?_) (fun h27b => absurd h27b (by omega))
        refine g_vret C hr hk d_M_find_208 ⟨rfl, hc⟩
      · exact absurd h66 (by omega)

set_option maxRecDepth 100000 in
set_option maxHeartbeats 4000000 in
theorem m_M_find {l : Launch} {D : va_G} {a : Nat → Nat} {ki kz kl kq : ClassId} {S : Nat → Int → Int} {u v : Int} (hG : GJ S) (h2 : twoS S u v) : MY l D a ki kz kl kq y_M_find b_M_find 6 none rm_M_find [.ref (a 0), .int (iI u), .int (iI v)] S (pV fun S' => eqx c9 S S' ∧ KP S' (spS S u v)) := by
  refine MM.go b_M_find 6 none "NextPathsModel" [(0, .ref (a 0)), (1, .int (iI u)), (2, .int (iI v))] (by decide) rfl rfl (Nat.le_of_ble_eq_true rfl) ?_
  intro p e s m args below meth c C hr hk
  have hn8 := hG.1
  have hn20 := hG.2.1
  refine g_aload_n C d_M_find_0 rfl rfl ?_
  refine g_iconst (z := 0) C d_M_find_1 rfl rfl ?_
  refine g_put (ty := .int) C 0 7 ty_M i_M ty_M_ok n_M wY_0 rfl (by decide) k_M_98 rfl rfl (by decide +kernel) rfl rfl (Nat.le_of_ble_eq_true rfl) wY_p0_7 d_M_find_2 rfl ?_
  refine g_iconst (z := 0) C d_M_find_5 rfl rfl ?_
  refine g_nm (fun d0 e_d0 => ?_)
  refine g_istore_n (lv' := [(3, .int (iI d0)), (0, .ref (a 0)), (1, .int (iI u)), (2, .int (iI v))]) C d_M_find_6 (by decide) rfl rfl ?_
  refine g_iconst (z := 1) C d_M_find_7 rfl rfl ?_
  refine g_iload_n C d_M_find_8 rfl rfl ?_
  refine g_ishl (z := ((bs [u] : Nat) : Int)) C d_M_find_9 (by rw [ishl_ok (by omega) (by omega)]; simp [bs]) rfl ?_
  refine g_nm (fun s0 e_s0 => ?_)
  refine g_istore (lv' := [(4, .int (iI s0)), (3, .int (iI d0)), (0, .ref (a 0)), (1, .int (iI u)), (2, .int (iI v))]) C d_M_find_10 (by decide) rfl rfl ?_
  refine g_aload_n C d_M_find_12 rfl rfl ?_
  refine g_get C 0 23 i_M wY_0 rfl (by decide) k_M_54 rfl rfl d_M_find_13 rfl ?_
  refine g_iconst (z := 0) C d_M_find_16 rfl rfl ?_
  refine g_iload_n C d_M_find_17 rfl rfl ?_
  refine g_iast C 15 0 wY_15 rfl (by omega) (by omega) (by decide) wY_s15 d_M_find_18 rfl ?_
  refine g_aload_n C d_M_find_19 rfl rfl ?_
  refine g_get C 0 22 i_M wY_0 rfl (by decide) k_M_51 rfl rfl d_M_find_20 rfl ?_
  refine g_iconst (z := 0) C d_M_find_23 rfl rfl ?_
  refine g_iconst (z := 0) C d_M_find_24 rfl rfl ?_
  refine g_iast C 14 0 wY_14 rfl (by omega) (by omega) (by decide) wY_s14 d_M_find_25 rfl ?_
  subst e_d0
  subst e_s0
  have hPS : PS S u v [] [] u := by
    refine ⟨rfl, rfl, by simp, fun x hx => ?_, fun k hk => by cases hk⟩
    have : x = u := by simpa using hx
    omega
  have hF : FV S (us (us (us S 7 0 0) 23 0 u) 22 0 0) u [] 0 [] := by
    refine ⟨eqx_us (eqx_us (eqx_us eqx_rf (by decide)) (by decide)) (by decide), by rw [us_s]; exact up_s, fun j hj => absurd hj (by simp), fun j hj => ?_, ⟨by rw [us_n (by decide), us_n (by decide), us_s, up_s]; rfl, fun i hi => absurd hi (by simp)⟩, List.Pairwise.nil, fun Q hQ => by cases hQ⟩
    have : j = 0 := by simpa using hj
    subst this
    rw [us_n (by decide), us_s]
    exact up_s
  have hdf : RSf (S 1 0).toNat (S 2) (S 3) (S 6) v 6 u [] 0 = df (S 1 0).toNat (S 2) (S 3) (S 6) v 7 u [] := by
    unfold RSf; rw [List.drop_zero, df_s (by omega)]
  have hlen : (df (S 1 0).toNat (S 2) (S 3) (S 6) v 7 u []).length ≤ 1458 := df_max (fun k => ⟨(hG.2.2.2.2.1 k).2.2.1, (hG.2.2.2.2.1 k).2.2.2.1⟩) hG.2.2.1 (by omega) (by omega) 7 (by omega) (by omega)
  refine GG.lvs (lv' := [(3, .int (iI (([] : List Int).length : Int))), (4, .int (iI ((bs [u] : Nat) : Int))), (0, .ref (a 0)), (1, .int (iI u)), (2, .int (iI v))]) (by simp [lk]) ?_
  refine lv_find hG (by omega) C hr hk 6 u [] [] hPS rfl (S 1 0).toNat 0 [] _ (by omega) (by omega) hF (by rw [hdf]; simpa using hlen) (fun S' R' hF' hp' => ?_)
  rw [hdf] at hp'
  have hR : R' = spS S u v := sp_uniq hG.2.2 (by omega) (by simpa using hp') hF'.2.2.2.2.2.1
  have q1 := hF'.1 1 (by decide)
  have q2 := hF'.2.1
  have q3 := hF'.2.2.2.1 0 (by simp)
  refine find_end C hr hk (by rw [q1]; exact hG.2.1) (by rw [q1]; rw [show ((([] : List Int).length : Nat) : Int) = 0 from rfl] at q2; rw [q2]; omega) q3 (by omega) ⟨hF'.1, hR ▸ hF'.2.2.2.2.1⟩

