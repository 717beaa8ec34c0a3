/-! the reference: sets of bits; a path is kept -/
def bs : List Int → Nat
  | [] => 0
  | k :: L => 2 ^ k.toNat ||| bs L
theorem bs_app : ∀ (L : List Int) (k : Int), bs (L ++ [k]) = bs L ||| 2 ^ k.toNat
  | [], k => by simp [bs]
  | x :: L, k => by simp only [List.cons_append, bs]; rw [bs_app L k, Nat.or_assoc]
theorem bs_tb : ∀ (L : List Int) (j : Nat), (∀ k, k ∈ L → 0 ≤ k) → ((bs L).testBit j = true ↔ (j : Int) ∈ L)
  | [], j, _ => by simp [bs]
  | x :: L, j, h => by
    have ih := bs_tb L j (fun k hk => h k (List.mem_cons_of_mem _ hk))
    have hx := h x List.mem_cons_self
    simp only [bs, Nat.testBit_or, Bool.or_eq_true, ih, Nat.testBit_two_pow, decide_eq_true_eq, List.mem_cons]
    constructor
    · rintro (q | q)
      · exact Or.inl (by omega)
      · exact Or.inr q
    · rintro (q | q)
      · exact Or.inl (by omega)
      · exact Or.inr q
theorem bs_lt {m : Nat} : ∀ (L : List Int), (∀ k, k ∈ L → 0 ≤ k ∧ k < m) → bs L < 2 ^ m
  | [], _ => by simp [bs]; exact Nat.pow_pos (by omega)
  | x :: L, h => by
    simp only [bs]
    have hx := h x List.mem_cons_self
    exact Nat.or_lt_two_pow (Nat.pow_lt_pow_right (by omega) (by omega)) (bs_lt L (fun k hk => h k (List.mem_cons_of_mem _ hk)))
theorem ishl_ok {k : Int} (h0 : 0 ≤ k) (h1 : k < 31) : iI 1 <<< (iI k &&& 31) = iI ((2 ^ k.toNat : Nat) : Int) := by
  rw [nI_iI h0, iI_nI]
  exact bi_shl1 k.toNat (by omega)
theorem ior_ok {a b : Nat} : iI (a : Int) ||| iI (b : Int) = iI ((a ||| b : Nat) : Int) := by
  rw [iI_nI, iI_nI, iI_nI]; exact bi_or a b
theorem iand_n {a b : Nat} : iI (a : Int) &&& iI (b : Int) = iI ((a &&& b : Nat) : Int) := by
  rw [iI_nI, iI_nI, iI_nI]; exact bi_and a b
theorem ishr_ok {a : Nat} {k : Int} (ha : a < 2147483648) (h0 : 0 ≤ k) (h1 : k < 32) : iI (a : Int) >>> (iI k &&& 31) = iI ((a / 2 ^ k.toNat : Nat) : Int) := by
  rw [nI_iI h0, iI_nI, iI_nI]
  exact bi_shr ha (by omega)
theorem iand1_ok {a : Nat} : iI (a : Int) &&& iI 1 = iI ((a % 2 : Nat) : Int) := by
  rw [iI_nI, iI_nI]
  show nI a &&& nI 1 = _
  rw [bi_and, Nat.and_one_is_mod]
theorem iclr_ok {a b : Nat} : iI (a : Int) &&& iI ((iI (b : Int) ^^^ iI (-1)).toInt) = iI ((a ^^^ (a &&& b) : Nat) : Int) := by
  rw [show iI ((iI (b : Int) ^^^ iI (-1)).toInt) = iI (b : Int) ^^^ iI (-1) from Int32.ofInt_toInt _, iI_nI, iI_nI, iI_nI]
  exact bi_clr a b
/-- bit k of a set -/
theorem tb_1 {a : Nat} {k : Int} : ((a / 2 ^ k.toNat % 2 : Nat) : Int) = 1 ↔ a.testBit k.toNat = true := by
  rw [Nat.testBit_eq_decide_div_mod_eq, decide_eq_true_eq]; omega
theorem tb_0 {a : Nat} {k : Int} : ((a / 2 ^ k.toNat % 2 : Nat) : Int) = 0 ↔ a.testBit k.toNat = false := by
  rw [Nat.testBit_eq_decide_div_mod_eq, decide_eq_false_iff_not]; omega
theorem tb_r {a : Nat} {k : Int} : 0 ≤ ((a / 2 ^ k.toNat % 2 : Nat) : Int) ∧ ((a / 2 ^ k.toNat % 2 : Nat) : Int) ≤ 1 := by omega
theorem inn_map {T : Int → Int} : ∀ P : List Int, inn T P = (P.dropLast).map T
  | [] => rfl
  | [k] => rfl
  | k :: k2 :: P => by
    have := inn_map (T := T) (k2 :: P)
    show (if k2 :: P = [] then [] else T k :: inn T (k2 :: P)) = _
    rw [if_neg (by simp), this]
    rfl
/-- the rows of a path that is kept at place i -/
def ENT (S : Nat → Int → Int) (W V T : Int → Int) (i : Int) (Q : List Int) : Prop := S 8 i = wp W Q ∧ S 9 i = wp V Q ∧ S 10 i = rw_ Q ∧ S 11 i = Q.length ∧ S 12 i = (bs Q : Nat) ∧ S 13 i = (bs (inn T Q) : Nat)
def KP (S : Nat → Int → Int) (R : List (List Int)) : Prop := S 7 0 = R.length ∧ ∀ i : Nat, i < R.length → ENT S (S 4) (S 5) (S 3) i (R.getD i [])
def set6 (S : Nat → Int → Int) (i w s r n x y : Int) : Nat → Int → Int := us (us (us (us (us (us S 8 i w) 9 i s) 10 i r) 11 i n) 12 i x) 13 i y
theorem set6_o {S : Nat → Int → Int} {i w s r n x y : Int} {k : Nat} (h : k < 8 ∨ 13 < k) : set6 S i w s r n x y k = S k := by
  unfold set6
  rw [us_n (by omega), us_n (by omega), us_n (by omega), us_n (by omega), us_n (by omega), us_n (by omega)]
theorem set6_e {S : Nat → Int → Int} {i w s r n x y : Int} : eqx [8, 9, 10, 11, 12, 13] S (set6 S i w s r n x y) := fun k hk => set6_o (by simp at hk; omega)
theorem set6_s {S : Nat → Int → Int} {W V T : Int → Int} {i w s r n x y : Int} {Q : List Int} (h1 : w = wp W Q) (h2 : s = wp V Q) (h3 : r = rw_ Q) (h4 : n = Q.length) (h5 : x = (bs Q : Nat)) (h6 : y = (bs (inn T Q) : Nat)) : ENT (set6 S i w s r n x y) W V T i Q := by
  refine ⟨?_, ?_, ?_, ?_, ?_, ?_⟩ <;> simp [set6, us, up_, *]
theorem set6_n {S : Nat → Int → Int} {W V T : Int → Int} {i j w s r n x y : Int} {Q : List Int} (h : j ≠ i) (hE : ENT S W V T j Q) : ENT (set6 S i w s r n x y) W V T j Q := by
  obtain ⟨h1, h2, h3, h4, h5, h6⟩ := hE
  refine ⟨?_, ?_, ?_, ?_, ?_, ?_⟩ <;> simp [set6, us, up_, *]
/-- on the way: the rows from at on have moved by one -/
def MV (S0 S : Nat → Int → Int) (R : List (List Int)) (P : List Int) (at_ : Nat) : Prop := eqx [8, 9, 10, 11, 12, 13] S0 S ∧ at_ ≤ R.length ∧ (∀ i : Nat, i < at_ → ENT S (S0 4) (S0 5) (S0 3) i (R.getD i [])) ∧ (∀ i : Nat, at_ ≤ i → i < R.length → ENT S (S0 4) (S0 5) (S0 3) ((i + 1 : Nat) : Int) (R.getD i [])) ∧ ∀ i : Nat, at_ ≤ i → i < R.length → cd (S0 4) P < cd (S0 4) (R.getD i [])
theorem MV_step {S0 S : Nat → Int → Int} {R : List (List Int)} {P : List Int} {q : Nat} (h : MV S0 S R P (q + 1)) (hc : cd (S0 4) P < cd (S0 4) (R.getD q [])) : MV S0 (set6 S ((q + 1 : Nat) : Int) (S 8 q) (S 9 q) (S 10 q) (S 11 q) (S 12 q) (S 13 q)) R P q := by
  obtain ⟨h0, h1, h2, h3, h4⟩ := h
  refine ⟨eqx_tr h0 set6_e, by omega, fun i hi => set6_n (by omega) (h2 i (by omega)), fun i hi hi2 => ?_, fun i hi hi2 => ?_⟩
  · by_cases e : i = q
    · subst e
      obtain ⟨g1, g2, g3, g4, g5, g6⟩ := h2 i (by omega)
      exact set6_s g1 g2 g3 g4 g5 g6
    · exact set6_n (by omega) (h3 i (by omega) hi2)
  · by_cases e : i = q
    · subst e; exact hc
    · exact h4 i (by omega) hi2
theorem MV_end {S0 S : Nat → Int → Int} {R : List (List Int)} {P : List Int} {q : Nat} {w s r n x y : Int} (h : MV S0 S R P q) (h7 : S0 7 0 = R.length) (hs : R.Pairwise (fun A B => cd (S0 4) A ≤ cd (S0 4) B)) (hc : 0 < q → cd (S0 4) (R.getD (q - 1) []) ≤ cd (S0 4) P) (h1 : w = wp (S0 4) P) (h2 : s = wp (S0 5) P) (h3 : r = rw_ P) (h4 : n = P.length) (h5 : x = (bs P : Nat)) (h6 : y = (bs (inn (S0 3) P) : Nat)) : eqx [7, 8, 9, 10, 11, 12, 13] S0 (us (set6 S q w s r n x y) 7 0 (S 7 0 + 1)) ∧ ∃ R', KP (us (set6 S q w s r n x y) 7 0 (S 7 0 + 1)) R' ∧ R'.Perm (P :: R) ∧ R'.Pairwise (fun A B => cd (S0 4) A ≤ cd (S0 4) B) := by
  obtain ⟨m0, m1, m2, m3, m4⟩ := h
  have e7 : S 7 = S0 7 := m0 7 (by decide)
  have hE : eqx [7, 8, 9, 10, 11, 12, 13] S0 (us (set6 S q w s r n x y) 7 0 (S 7 0 + 1)) := eqx_us (eqx_mono (eqx_tr m0 set6_e) (by simp)) (by simp)
  have hlen : (R.take q ++ P :: R.drop q).length = R.length + 1 := by simp; omega
  refine ⟨hE, R.take q ++ P :: R.drop q, ⟨?_, fun i hi => ?_⟩, ?_, ?_⟩
  · rw [us_s, up_s, e7, h7, hlen]; omega
  · rw [hE 3 (by decide), hE 4 (by decide), hE 5 (by decide)]
    have hg : ∀ j Q, ENT (set6 S q w s r n x y) (S0 4) (S0 5) (S0 3) j Q → ENT (us (set6 S q w s r n x y) 7 0 (S 7 0 + 1)) (S0 4) (S0 5) (S0 3) j Q := fun j Q hq => by
      unfold ENT at *
      rw [us_n (by decide), us_n (by decide), us_n (by decide), us_n (by decide), us_n (by decide), us_n (by decide)]
      exact hq
    apply hg
    rw [hlen] at hi
    have ht : (R.take q).length = q := by simp; omega
    rcases Nat.lt_trichotomy i q with c | c | c
    · have e : (R.take q ++ P :: R.drop q).getD i [] = R.getD i [] := by
        simp [List.getElem?_append_left (show i < (R.take q).length by omega), List.getElem?_take, c]
      rw [e]
      exact set6_n (by omega) (m2 i c)
    · subst c
      have e : (R.take i ++ P :: R.drop i).getD i [] = P := by
        rw [List.getD_eq_getElem?_getD, List.getElem?_append_right (by omega), ht]
        simp
      rw [e]
      exact set6_s h1 h2 h3 h4 h5 h6
    · obtain ⟨j, rfl⟩ : ∃ j, i = j + 1 := ⟨i - 1, by omega⟩
      have e : (R.take q ++ P :: R.drop q).getD (j + 1) [] = R.getD j [] := by
        rw [List.getD_eq_getElem?_getD, List.getElem?_append_right (by omega), ht, show j + 1 - q = (j - q) + 1 by omega]
        simp [show q + (j - q) = j by omega]
      rw [e]
      exact set6_n (by omega) (m3 j (by omega) (by omega))
  · refine List.perm_middle.trans ?_
    rw [List.take_append_drop]
  · rw [List.pairwise_append]
    have ha := List.pairwise_iff_getElem.mp hs
    have hbef : ∀ A, A ∈ R.take q → cd (S0 4) A ≤ cd (S0 4) P := fun A hA => by
      obtain ⟨i, hi, rfl⟩ := List.mem_iff_getElem.mp hA
      have hi2 : i < q := by simp at hi; omega
      have hi3 : i < R.length := by omega
      rw [List.getElem_take]
      have h9 := hc (by omega)
      have hq1 : q - 1 < R.length := by omega
      rw [show R.getD (q - 1) [] = R[q - 1] by simp [hq1]] at h9
      by_cases e : i = q - 1
      · subst e; exact h9
      · exact Int.le_trans (ha i (q - 1) hi3 hq1 (by omega)) h9
    have haft : ∀ B, B ∈ R.drop q → cd (S0 4) P ≤ cd (S0 4) B := fun B hB => by
      obtain ⟨i, hi, rfl⟩ := List.mem_iff_getElem.mp hB
      have hi2 : q + i < R.length := by simp at hi; omega
      have h9 := m4 (q + i) (by omega) hi2
      rw [show R.getD (q + i) [] = R[q + i] by simp [hi2]] at h9
      rw [List.getElem_drop]
      omega
    refine ⟨List.Pairwise.sublist (List.take_sublist _ _) hs, List.pairwise_cons.mpr ⟨haft, List.Pairwise.sublist (List.drop_sublist _ _) hs⟩, fun A hA B hB => ?_⟩
    rcases List.mem_cons.mp hB with rfl | hB
    · exact hbef A hA
    · exact Int.le_trans (hbef A hA) (haft B hB)

set_option maxRecDepth 100000 in
set_option maxHeartbeats 4000000 in
theorem lo_keep2 {l : Launch} {D : va_G} {a : Nat → Nat} {ki kz kl kq : ClassId} {p : Program} {e : Env} {s : State} {m : MethodId} {args : Array Value} {below : List Frame} {meth : Method} {c : Code} {S0 : Nat → Int → Int} {P : List Int} {R : List (List Int)} {w n sx rw x y : Int} (hG : GJ S0) (hP : ok5 P) (hK : KP S0 R) (hl : R.length < 4000) (hok : ∀ Q, Q ∈ R → ok5 Q) (hs : R.Pairwise (fun A B => cd (S0 4) A ≤ cd (S0 4) B)) (hn : n = P.length) (hw : w = wp (S0 4) P) (hsx : sx = wp (S0 5) P) (hrw : rw = rw_ P) (hx : x = (bs P : Nat)) (hy : y = (bs (inn (S0 3) P) : Nat)) (C : CX p s m args c b_M_keep 10 "NextPathsModel" TT D cls (tyz ki kz kl kq)) (hr : meth.sig.returnType = none) (hk : meth.locks = false) : ∀ (j q : Nat) (S : Nat → Int → Int), q ≤ j → MV S0 S R P q → GG p l e rm_M_keep s m args below meth c D cls (adr (wY a ki kz kl kq S0)) 10 0 0 (MQ below (QcW D cls (wY a ki kz kl kq) S0 (pV fun S' => eqx [7, 8, 9, 10, 11, 12, 13] S0 S' ∧ ∃ R', KP S' R' ∧ R'.Perm (P :: R) ∧ R'.Pairwise (fun A B => cd (S0 4) A ≤ cd (S0 4) B))) args s 0 0 (adr (wY a ki kz kl kq S0))) (wY a ki kz kl kq) S [(8, .int (iI (q : Int))), (2, .int (iI w)), (3, .int (iI sx)), (4, .long (lI rw)), (6, .int (iI x)), (7, .int (iI y)), (0, .ref (a 0)), (1, .int (iI n))] 105 [] := by
  intro j
  induction j with
  | zero =>
    intro q S hq hM
    have hql : q ≤ R.length := hM.2.1
    refine g_iload C d_M_keep_105 rfl rfl ?_
    refine g_if_le (tgt := 227) C d_M_keep_107 (by decide) rfl (by omega) (fun h107 => ?_) (fun h107 => ?_)
    · refine g_aload_n C d_M_keep_227 rfl rfl ?_
      refine g_get C 0 8 i_M wY_0 rfl (by decide) k_M_26 rfl rfl d_M_keep_228 rfl ?_
      refine g_iload C d_M_keep_231 rfl rfl ?_
      refine g_iload_n C d_M_keep_233 rfl rfl ?_
      refine g_iast C 6 0 wY_6 rfl (by omega) (by omega) (by decide) wY_s6 d_M_keep_234 rfl ?_
      refine g_aload_n C d_M_keep_235 rfl rfl ?_
      refine g_get C 0 9 i_M wY_0 rfl (by decide) k_M_29 rfl rfl d_M_keep_236 rfl ?_
      refine g_iload C d_M_keep_239 rfl rfl ?_
      refine g_iload_n C d_M_keep_241 rfl rfl ?_
      refine g_iast C 7 0 wY_7 rfl (by omega) (by omega) (by decide) wY_s7 d_M_keep_242 rfl ?_
      refine g_aload_n C d_M_keep_243 rfl rfl ?_
      refine g_get C 0 10 i_M wY_0 rfl (by decide) k_M_32 rfl rfl d_M_keep_244 rfl ?_
      refine g_iload C d_M_keep_247 rfl rfl ?_
      refine g_lload C d_M_keep_249 rfl rfl ?_
      refine g_last C 8 2 wY_8 rfl (by omega) (by omega) (by decide) wY_s8 d_M_keep_251 rfl ?_
      refine g_aload_n C d_M_keep_252 rfl rfl ?_
      refine g_get C 0 11 i_M wY_0 rfl (by decide) k_M_36 rfl rfl d_M_keep_253 rfl ?_
      refine g_iload C d_M_keep_256 rfl rfl ?_
      refine g_iload_n C d_M_keep_258 rfl rfl ?_
      refine g_iast C 9 0 wY_9 rfl (by omega) (by omega) (by decide) wY_s9 d_M_keep_259 rfl ?_
      refine g_aload_n C d_M_keep_260 rfl rfl ?_
      refine g_get C 0 12 i_M wY_0 rfl (by decide) k_M_39 rfl rfl d_M_keep_261 rfl ?_
      refine g_iload C d_M_keep_264 rfl rfl ?_
      refine g_iload C d_M_keep_266 rfl rfl ?_
      refine g_iast C 10 0 wY_10 rfl (by omega) (by omega) (by decide) wY_s10 d_M_keep_268 rfl ?_
      refine g_aload_n C d_M_keep_269 rfl rfl ?_
      refine g_get C 0 13 i_M wY_0 rfl (by decide) k_M_42 rfl rfl d_M_keep_270 rfl ?_
      refine g_iload C d_M_keep_273 rfl rfl ?_
      refine g_iload C d_M_keep_275 rfl rfl ?_
      refine g_iast C 11 0 wY_11 rfl (by omega) (by omega) (by decide) wY_s11 d_M_keep_277 rfl ?_
      refine g_aload_n C d_M_keep_278 rfl rfl ?_
      refine g_dup C d_M_keep_279 rfl rfl ?_
      refine g_get C 0 7 i_M wY_0 rfl (by decide) k_M_98 rfl rfl d_M_keep_280 rfl ?_
      refine g_v (z' := S 7 0) rfl ?_
      refine g_iconst (z := 1) C d_M_keep_283 rfl rfl ?_
      refine g_iadd C d_M_keep_284 rfl rfl ?_
      refine g_put (ty := .int) C 0 7 ty_M i_M ty_M_ok n_M wY_0 rfl (by decide) k_M_98 rfl rfl (by decide +kernel) rfl rfl (Nat.le_of_ble_eq_true rfl) wY_p0_7 d_M_keep_285 rfl ?_
      refine g_vret C hr hk d_M_keep_288 ⟨rfl, ?_⟩
      first
        | exact MV_end hM hK.1 hs (fun hq0 => absurd hq0 (by omega)) hw hsx hrw hn hx hy
        | (subst hqq
           refine MV_end hM hK.1 hs (fun _ => ?_) hw hsx hrw hn hx hy
           rw [show q' + 1 - 1 = q' by omega]
           refine Int.not_lt.mp (fun hcl => ?_)
           have := ecd.mp hcl
           omega)
    · exact absurd h107 (by omega)
  | succ j ih =>
    intro q S hq hM
    have hql : q ≤ R.length := hM.2.1
    refine g_iload C d_M_keep_105 rfl rfl ?_
    refine g_if_le (tgt := 227) C d_M_keep_107 (by decide) rfl (by omega) (fun h107 => ?_) (fun h107 => ?_)
    · refine g_aload_n C d_M_keep_227 rfl rfl ?_
      refine g_get C 0 8 i_M wY_0 rfl (by decide) k_M_26 rfl rfl d_M_keep_228 rfl ?_
      refine g_iload C d_M_keep_231 rfl rfl ?_
      refine g_iload_n C d_M_keep_233 rfl rfl ?_
      refine g_iast C 6 0 wY_6 rfl (by omega) (by omega) (by decide) wY_s6 d_M_keep_234 rfl ?_
      refine g_aload_n C d_M_keep_235 rfl rfl ?_
      refine g_get C 0 9 i_M wY_0 rfl (by decide) k_M_29 rfl rfl d_M_keep_236 rfl ?_
      refine g_iload C d_M_keep_239 rfl rfl ?_
      refine g_iload_n C d_M_keep_241 rfl rfl ?_
      refine g_iast C 7 0 wY_7 rfl (by omega) (by omega) (by decide) wY_s7 d_M_keep_242 rfl ?_
      refine g_aload_n C d_M_keep_243 rfl rfl ?_
      refine g_get C 0 10 i_M wY_0 rfl (by decide) k_M_32 rfl rfl d_M_keep_244 rfl ?_
      refine g_iload C d_M_keep_247 rfl rfl ?_
      refine g_lload C d_M_keep_249 rfl rfl ?_
      refine g_last C 8 2 wY_8 rfl (by omega) (by omega) (by decide) wY_s8 d_M_keep_251 rfl ?_
      refine g_aload_n C d_M_keep_252 rfl rfl ?_
      refine g_get C 0 11 i_M wY_0 rfl (by decide) k_M_36 rfl rfl d_M_keep_253 rfl ?_
      refine g_iload C d_M_keep_256 rfl rfl ?_
      refine g_iload_n C d_M_keep_258 rfl rfl ?_
      refine g_iast C 9 0 wY_9 rfl (by omega) (by omega) (by decide) wY_s9 d_M_keep_259 rfl ?_
      refine g_aload_n C d_M_keep_260 rfl rfl ?_
      refine g_get C 0 12 i_M wY_0 rfl (by decide) k_M_39 rfl rfl d_M_keep_261 rfl ?_
      refine g_iload C d_M_keep_264 rfl rfl ?_
      refine g_iload C d_M_keep_266 rfl rfl ?_
      refine g_iast C 10 0 wY_10 rfl (by omega) (by omega) (by decide) wY_s10 d_M_keep_268 rfl ?_
      refine g_aload_n C d_M_keep_269 rfl rfl ?_
      refine g_get C 0 13 i_M wY_0 rfl (by decide) k_M_42 rfl rfl d_M_keep_270 rfl ?_
      refine g_iload C d_M_keep_273 rfl rfl ?_
      refine g_iload C d_M_keep_275 rfl rfl ?_
      refine g_iast C 11 0 wY_11 rfl (by omega) (by omega) (by decide) wY_s11 d_M_keep_277 rfl ?_
      refine g_aload_n C d_M_keep_278 rfl rfl ?_
      refine g_dup C d_M_keep_279 rfl rfl ?_
      refine g_get C 0 7 i_M wY_0 rfl (by decide) k_M_98 rfl rfl d_M_keep_280 rfl ?_
      refine g_v (z' := S 7 0) rfl ?_
      refine g_iconst (z := 1) C d_M_keep_283 rfl rfl ?_
      refine g_iadd C d_M_keep_284 rfl rfl ?_
      refine g_put (ty := .int) C 0 7 ty_M i_M ty_M_ok n_M wY_0 rfl (by decide) k_M_98 rfl rfl (by decide +kernel) rfl rfl (Nat.le_of_ble_eq_true rfl) wY_p0_7 d_M_keep_285 rfl ?_
      refine g_vret C hr hk d_M_keep_288 ⟨rfl, ?_⟩
      first
        | exact MV_end hM hK.1 hs (fun hq0 => absurd hq0 (by omega)) hw hsx hrw hn hx hy
        | (subst hqq
           refine MV_end hM hK.1 hs (fun _ => ?_) hw hsx hrw hn hx hy
           rw [show q' + 1 - 1 = q' by omega]
           refine Int.not_lt.mp (fun hcl => ?_)
           have := ecd.mp hcl
           omega)
    · obtain ⟨q', hqq⟩ : ∃ q', q = q' + 1 := ⟨q - 1, by omega⟩
      have hq9 : q' < R.length := by have := hM.2.1; omega
      have hE := hM.2.2.1 q' (by omega)
      have hoq := hok (R.getD q' []) (by simp [hq9])
      have b1 := wp_bd (W := S0 4) (fun k => ⟨(hG.2.2.2.2.1 k).2.2.2.2.1, (hG.2.2.2.2.1 k).2.2.2.2.2.1⟩) (R.getD q' [])
      have b2 := rw_a hoq
      have b3 := hoq.1
      have g1 := wp_bd (W := S0 4) (fun k => ⟨(hG.2.2.2.2.1 k).2.2.2.2.1, (hG.2.2.2.2.1 k).2.2.2.2.2.1⟩) P
      have g2 := rw_a hP
      have g3 := hP.1
      have ecd := cd_lt (W := S0 4) hP hoq
      refine g_aload_n C d_M_keep_110 rfl rfl ?_
      refine g_iload_n C d_M_keep_111 rfl rfl ?_
      refine g_iload_n C d_M_keep_112 rfl rfl ?_
      refine g_lload C d_M_keep_113 rfl rfl ?_
      refine g_iload C d_M_keep_115 rfl rfl ?_
      refine g_iconst (z := 1) C d_M_keep_117 rfl rfl ?_
      refine g_isub (z := (q' : Int)) C d_M_keep_118 (by omega) rfl ?_
      refine g_runI (wY_fix a ki kz kl kq) rfl (rn_V C (m_M_isAhead (by omega) (by omega) (by omega) (by omega) (by rw [hE.1]; omega) (by rw [hE.2.2.2.1]; omega) (by rw [hE.2.2.1]; omega)) 0 4 wY_0 rfl rfl kc_M_isAhead k_M_105 ki_M_isAhead kx_M_isAhead kn_M hy_M_isAhead ⟨rfl, rfl⟩ ⟨by decide, by decide⟩ ⟨Nat.le_refl _, Nat.le_refl _⟩ rfl rfl (Nat.le_of_ble_eq_true rfl) d_M_keep_119) (fun r1 S1 hp1 => ?_)
      obtain ⟨hS1, hp1⟩ := hp1
      refine GG.at hS1 ?_
      rw [hE.1, hE.2.2.2.1, hE.2.2.1] at hp1
      refine g_if_eq (tgt := 227) C d_M_keep_122 (by decide) rfl (by omega) (fun h122 => ?_) (fun h122 => ?_)
      · refine g_aload_n C d_M_keep_227 rfl rfl ?_
        refine g_get C 0 8 i_M wY_0 rfl (by decide) k_M_26 rfl rfl d_M_keep_228 rfl ?_
        refine g_iload C d_M_keep_231 rfl rfl ?_
        refine g_iload_n C d_M_keep_233 rfl rfl ?_
        refine g_iast C 6 0 wY_6 rfl (by omega) (by omega) (by decide) wY_s6 d_M_keep_234 rfl ?_
        refine g_aload_n C d_M_keep_235 rfl rfl ?_
        refine g_get C 0 9 i_M wY_0 rfl (by decide) k_M_29 rfl rfl d_M_keep_236 rfl ?_
        refine g_iload C d_M_keep_239 rfl rfl ?_
        refine g_iload_n C d_M_keep_241 rfl rfl ?_
        refine g_iast C 7 0 wY_7 rfl (by omega) (by omega) (by decide) wY_s7 d_M_keep_242 rfl ?_
        refine g_aload_n C d_M_keep_243 rfl rfl ?_
        refine g_get C 0 10 i_M wY_0 rfl (by decide) k_M_32 rfl rfl d_M_keep_244 rfl ?_
        refine g_iload C d_M_keep_247 rfl rfl ?_
        refine g_lload C d_M_keep_249 rfl rfl ?_
        refine g_last C 8 2 wY_8 rfl (by omega) (by omega) (by decide) wY_s8 d_M_keep_251 rfl ?_
        refine g_aload_n C d_M_keep_252 rfl rfl ?_
        refine g_get C 0 11 i_M wY_0 rfl (by decide) k_M_36 rfl rfl d_M_keep_253 rfl ?_
        refine g_iload C d_M_keep_256 rfl rfl ?_
        refine g_iload_n C d_M_keep_258 rfl rfl ?_
        refine g_iast C 9 0 wY_9 rfl (by omega) (by omega) (by decide) wY_s9 d_M_keep_259 rfl ?_
        refine g_aload_n C d_M_keep_260 rfl rfl ?_
        refine g_get C 0 12 i_M wY_0 rfl (by decide) k_M_39 rfl rfl d_M_keep_261 rfl ?_
        refine g_iload C d_M_keep_264 rfl rfl ?_
        refine g_iload C d_M_keep_266 rfl rfl ?_
        refine g_iast C 10 0 wY_10 rfl (by omega) (by omega) (by decide) wY_s10 d_M_keep_268 rfl ?_
        refine g_aload_n C d_M_keep_269 rfl rfl ?_
        refine g_get C 0 13 i_M wY_0 rfl (by decide) k_M_42 rfl rfl d_M_keep_270 rfl ?_
        refine g_iload C d_M_keep_273 rfl rfl ?_
        refine g_iload C d_M_keep_275 rfl rfl ?_
        refine g_iast C 11 0 wY_11 rfl (by omega) (by omega) (by decide) wY_s11 d_M_keep_277 rfl ?_
        refine g_aload_n C d_M_keep_278 rfl rfl ?_
        refine g_dup C d_M_keep_279 rfl rfl ?_
        refine g_get C 0 7 i_M wY_0 rfl (by decide) k_M_98 rfl rfl d_M_keep_280 rfl ?_
        refine g_v (z' := S 7 0) rfl ?_
        refine g_iconst (z := 1) C d_M_keep_283 rfl rfl ?_
        refine g_iadd C d_M_keep_284 rfl rfl ?_
        refine g_put (ty := .int) C 0 7 ty_M i_M ty_M_ok n_M wY_0 rfl (by decide) k_M_98 rfl rfl (by decide +kernel) rfl rfl (Nat.le_of_ble_eq_true rfl) wY_p0_7 d_M_keep_285 rfl ?_
        refine g_vret C hr hk d_M_keep_288 ⟨rfl, ?_⟩
        first
          | exact MV_end hM hK.1 hs (fun hq0 => absurd hq0 (by omega)) hw hsx hrw hn hx hy
          | (subst hqq
             refine MV_end hM hK.1 hs (fun _ => ?_) hw hsx hrw hn hx hy
             rw [show q' + 1 - 1 = q' by omega]
             refine Int.not_lt.mp (fun hcl => ?_)
             have := ecd.mp hcl
             omega)
      · refine g_aload_n C d_M_keep_125 rfl rfl ?_
        refine g_get C 0 8 i_M wY_0 rfl (by decide) k_M_26 rfl rfl d_M_keep_126 rfl ?_
        refine g_iload C d_M_keep_129 rfl rfl ?_
        refine g_aload_n C d_M_keep_131 rfl rfl ?_
        refine g_get C 0 8 i_M wY_0 rfl (by decide) k_M_26 rfl rfl d_M_keep_132 rfl ?_
        refine g_iload C d_M_keep_135 rfl rfl ?_
        refine g_iconst (z := 1) C d_M_keep_137 rfl rfl ?_
        refine g_isub (z := (q' : Int)) C d_M_keep_138 (by omega) rfl ?_
        refine g_iald C 6 0 wY_6 rfl (by omega) (by omega) (by decide) d_M_keep_139 rfl ?_
        refine g_v (z' := S 8 q') rfl ?_
        refine g_iast C 6 0 wY_6 rfl (by omega) (by omega) (by decide) wY_s6 d_M_keep_140 rfl ?_
        refine g_aload_n C d_M_keep_141 rfl rfl ?_
        refine g_get C 0 9 i_M wY_0 rfl (by decide) k_M_29 rfl rfl d_M_keep_142 rfl ?_
        refine g_iload C d_M_keep_145 rfl rfl ?_
        refine g_aload_n C d_M_keep_147 rfl rfl ?_
        refine g_get C 0 9 i_M wY_0 rfl (by decide) k_M_29 rfl rfl d_M_keep_148 rfl ?_
        refine g_iload C d_M_keep_151 rfl rfl ?_
        refine g_iconst (z := 1) C d_M_keep_153 rfl rfl ?_
        refine g_isub (z := (q' : Int)) C d_M_keep_154 (by omega) rfl ?_
        refine g_iald C 7 0 wY_7 rfl (by omega) (by omega) (by decide) d_M_keep_155 rfl ?_
        refine g_v (z' := S 9 q') rfl ?_
        refine g_iast C 7 0 wY_7 rfl (by omega) (by omega) (by decide) wY_s7 d_M_keep_156 rfl ?_
        refine g_aload_n C d_M_keep_157 rfl rfl ?_
        refine g_get C 0 10 i_M wY_0 rfl (by decide) k_M_32 rfl rfl d_M_keep_158 rfl ?_
        refine g_iload C d_M_keep_161 rfl rfl ?_
        refine g_aload_n C d_M_keep_163 rfl rfl ?_
        refine g_get C 0 10 i_M wY_0 rfl (by decide) k_M_32 rfl rfl d_M_keep_164 rfl ?_
        refine g_iload C d_M_keep_167 rfl rfl ?_
        refine g_iconst (z := 1) C d_M_keep_169 rfl rfl ?_
        refine g_isub (z := (q' : Int)) C d_M_keep_170 (by omega) rfl ?_
        refine g_lald C 8 2 wY_8 rfl (by omega) (by omega) (by decide) d_M_keep_171 rfl ?_
        refine g_vl (z' := S 10 q') rfl ?_
        refine g_last C 8 2 wY_8 rfl (by omega) (by omega) (by decide) wY_s8 d_M_keep_172 rfl ?_
        refine g_aload_n C d_M_keep_173 rfl rfl ?_
        refine g_get C 0 11 i_M wY_0 rfl (by decide) k_M_36 rfl rfl d_M_keep_174 rfl ?_
        refine g_iload C d_M_keep_177 rfl rfl ?_
        refine g_aload_n C d_M_keep_179 rfl rfl ?_
        refine g_get C 0 11 i_M wY_0 rfl (by decide) k_M_36 rfl rfl d_M_keep_180 rfl ?_
        refine g_iload C d_M_keep_183 rfl rfl ?_
        refine g_iconst (z := 1) C d_M_keep_185 rfl rfl ?_
        refine g_isub (z := (q' : Int)) C d_M_keep_186 (by omega) rfl ?_
        refine g_iald C 9 0 wY_9 rfl (by omega) (by omega) (by decide) d_M_keep_187 rfl ?_
        refine g_v (z' := S 11 q') rfl ?_
        refine g_iast C 9 0 wY_9 rfl (by omega) (by omega) (by decide) wY_s9 d_M_keep_188 rfl ?_
        refine g_aload_n C d_M_keep_189 rfl rfl ?_
        refine g_get C 0 12 i_M wY_0 rfl (by decide) k_M_39 rfl rfl d_M_keep_190 rfl ?_
        refine g_iload C d_M_keep_193 rfl rfl ?_
        refine g_aload_n C d_M_keep_195 rfl rfl ?_
        refine g_get C 0 12 i_M wY_0 rfl (by decide) k_M_39 rfl rfl d_M_keep_196 rfl ?_
        refine g_iload C d_M_keep_199 rfl rfl ?_
        refine g_iconst (z := 1) C d_M_keep_201 rfl rfl ?_
        refine g_isub (z := (q' : Int)) C d_M_keep_202 (by omega) rfl ?_
        refine g_iald C 10 0 wY_10 rfl (by omega) (by omega) (by decide) d_M_keep_203 rfl ?_
        refine g_v (z' := S 12 q') rfl ?_
        refine g_iast C 10 0 wY_10 rfl (by omega) (by omega) (by decide) wY_s10 d_M_keep_204 rfl ?_
        refine g_aload_n C d_M_keep_205 rfl rfl ?_
        refine g_get C 0 13 i_M wY_0 rfl (by decide) k_M_42 rfl rfl d_M_keep_206 rfl ?_
        refine g_iload C d_M_keep_209 rfl rfl ?_
        refine g_aload_n C d_M_keep_211 rfl rfl ?_
        refine g_get C 0 13 i_M wY_0 rfl (by decide) k_M_42 rfl rfl d_M_keep_212 rfl ?_
        refine g_iload C d_M_keep_215 rfl rfl ?_
        refine g_iconst (z := 1) C d_M_keep_217 rfl rfl ?_
        refine g_isub (z := (q' : Int)) C d_M_keep_218 (by omega) rfl ?_
        refine g_iald C 11 0 wY_11 rfl (by omega) (by omega) (by decide) d_M_keep_219 rfl ?_
        refine g_v (z' := S 13 q') rfl ?_
        refine g_iast C 11 0 wY_11 rfl (by omega) (by omega) (by decide) wY_s11 d_M_keep_220 rfl ?_
        obtain ⟨q2, e_q2⟩ : ∃ z : Int, z = (q : Int) + (-1) := ⟨_, rfl⟩
        refine g_iinc (q := 0) (z := q2) (lv' := [(8, .int (iI q2)), (2, .int (iI w)), (3, .int (iI sx)), (4, .long (lI rw)), (6, .int (iI x)), (7, .int (iI y)), (0, .ref (a 0)), (1, .int (iI n))]) C d_M_keep_221 rfl e_q2.symm (by decide) rfl rfl ?_
        refine g_goto (tgt := 105) C d_M_keep_224 (by decide) ?_
        subst hqq
        have hcl : cd (S0 4) P < cd (S0 4) (R.getD q' []) := ecd.mpr (by omega)
        refine GG.lvs (lv' := [(8, .int (iI (q' : Int))), (2, .int (iI w)), (3, .int (iI sx)), (4, .long (lI rw)), (6, .int (iI x)), (7, .int (iI y)), (0, .ref (a 0)), (1, .int (iI n))]) (by rw [show q2 = (q' : Int) by omega]; simp [lk]) ?_
        exact ih q' _ (by omega) (MV_step hM hcl)

theorem tk_s {P : List Int} {i : Nat} (h : i < P.length) : P.take (i + 1) = P.take i ++ [P.getD i 0] := by
  rw [List.take_add_one]
  simp [h]
theorem bs_inn {T : Int → Int} {P : List Int} : bs (inn T P) = bs ((P.take (P.length - 1)).map T) := by rw [inn_map, List.dropLast_eq_take]

theorem nd_ok {T : Int → Int} {P : List Int} {i : Nat} (h0 : 0 < i) (h1 : i < P.length) : iI ((bs ((P.take (i - 1)).map T) : Nat) : Int) ||| iI ((2 ^ (T (P.getD (i - 1) 0)).toNat : Nat) : Int) = iI ((bs ((P.take (i + 1 - 1)).map T) : Nat) : Int) := by
  obtain ⟨i0, rfl⟩ : ∃ i0, i = i0 + 1 := ⟨i - 1, by omega⟩
  simp only [Nat.add_sub_cancel]
  rw [tk_s (show i0 < P.length by omega), List.map_append, List.map_cons, List.map_nil, bs_app]
  exact ior_ok
theorem nd_z {T : Int → Int} {P : List Int} {i : Nat} (h0 : i = 0) : iI ((bs ((P.take (i - 1)).map T) : Nat) : Int) ||| iI 0 = iI ((bs ((P.take (i + 1 - 1)).map T) : Nat) : Int) := by
  subst h0
  simp [bs]

set_option maxRecDepth 100000 in
set_option maxHeartbeats 4000000 in
theorem lo_keep1 {l : Launch} {D : va_G} {a : Nat → Nat} {ki kz kl kq : ClassId} {p : Program} {e : Env} {s : State} {m : MethodId} {args : Array Value} {below : List Frame} {meth : Method} {c : Code} {S : Nat → Int → Int} {P : List Int} {R : List (List Int)} (hG : GJ S) (hP : ok5 P) (hK : KP S R) (hl : R.length < 4000) (hok : ∀ Q, Q ∈ R → ok5 Q) (hs : R.Pairwise (fun A B => cd (S 4) A ≤ cd (S 4) B)) (hA : ∀ k, k ∈ P → 0 ≤ k ∧ k < 20) (htr : ∀ j : Nat, j < P.length → S 22 j = P.getD j 0) (hst : ∀ j : Nat, 0 < j → j < P.length → S 23 j = S 3 (P.getD (j - 1) 0)) (C : CX p s m args c b_M_keep 10 "NextPathsModel" TT D cls (tyz ki kz kl kq)) (hr : meth.sig.returnType = none) (hk : meth.locks = false) : ∀ (j i : Nat), i ≤ P.length → P.length ≤ i + j → GG p l e rm_M_keep s m args below meth c D cls (adr (wY a ki kz kl kq S)) 10 0 0 (MQ below (QcW D cls (wY a ki kz kl kq) S (pV fun S' => eqx [7, 8, 9, 10, 11, 12, 13] S S' ∧ ∃ R', KP S' R' ∧ R'.Perm (P :: R) ∧ R'.Pairwise (fun A B => cd (S 4) A ≤ cd (S 4) B))) args s 0 0 (adr (wY a ki kz kl kq S))) (wY a ki kz kl kq) S [(8, .int (iI (i : Int))), (2, .int (iI (wp (S 4) (P.take i)))), (3, .int (iI (wp (S 5) (P.take i)))), (4, .long (lI (rw_ (P.take i)))), (6, .int (iI ((bs (P.take i) : Nat) : Int))), (7, .int (iI ((bs ((P.take (i - 1)).map (S 3)) : Nat) : Int))), (0, .ref (a 0)), (1, .int (iI (P.length : Int)))] 16 [] := by
  intro j
  induction j with
  | zero =>
    intro i hi hk0
    have hl7 := hP.1
    refine g_iload C d_M_keep_16 rfl rfl ?_
    refine g_iload_n C d_M_keep_18 rfl rfl ?_
    refine g_icmp_ge (tgt := 99) C d_M_keep_19 (by decide) rfl (by omega) (by omega) (fun h19 => ?_) (fun h19 => ?_)
    · refine g_aload_n C d_M_keep_99 rfl rfl ?_
      refine g_get C 0 7 i_M wY_0 rfl (by decide) k_M_98 rfl rfl d_M_keep_100 rfl ?_
      refine g_v (z' := (R.length : Int)) hK.1 ?_
      refine g_nm (fun at0 e_at0 => ?_)
      refine g_istore (lv' := [(8, .int (iI at0)), (2, .int (iI (wp (S 4) (P.take i)))), (3, .int (iI (wp (S 5) (P.take i)))), (4, .long (lI (rw_ (P.take i)))), (6, .int (iI ((bs (P.take i) : Nat) : Int))), (7, .int (iI ((bs ((P.take (i - 1)).map (S 3)) : Nat) : Int))), (0, .ref (a 0)), (1, .int (iI (P.length : Int)))]) C d_M_keep_103 (by decide) rfl rfl ?_
      have hil : i = P.length := by omega
      subst hil
      have et : P.take P.length = P := List.take_length
      refine GG.lvs (lv' := [(8, .int (iI (R.length : Int))), (2, .int (iI (wp (S 4) P))), (3, .int (iI (wp (S 5) P))), (4, .long (lI (rw_ P))), (6, .int (iI ((bs P : Nat) : Int))), (7, .int (iI ((bs (inn (S 3) P) : Nat) : Int))), (0, .ref (a 0)), (1, .int (iI (P.length : Int)))]) (by rw [et, bs_inn, e_at0]; simp [lk]) ?_
      refine lo_keep2 hG hP hK hl hok hs rfl rfl rfl rfl rfl rfl C hr hk R.length R.length S (Nat.le_refl _) ⟨eqx_rf, Nat.le_refl _, hK.2, fun i h1 h2 => absurd h2 (by omega), fun i h1 h2 => absurd h2 (by omega)⟩
    · exact absurd h19 (by omega)
  | succ j ih =>
    intro i hi hk0
    have hl7 := hP.1
    refine g_iload C d_M_keep_16 rfl rfl ?_
    refine g_iload_n C d_M_keep_18 rfl rfl ?_
    refine g_icmp_ge (tgt := 99) C d_M_keep_19 (by decide) rfl (by omega) (by omega) (fun h19 => ?_) (fun h19 => ?_)
    · refine g_aload_n C d_M_keep_99 rfl rfl ?_
      refine g_get C 0 7 i_M wY_0 rfl (by decide) k_M_98 rfl rfl d_M_keep_100 rfl ?_
      refine g_v (z' := (R.length : Int)) hK.1 ?_
      refine g_nm (fun at0 e_at0 => ?_)
      refine g_istore (lv' := [(8, .int (iI at0)), (2, .int (iI (wp (S 4) (P.take i)))), (3, .int (iI (wp (S 5) (P.take i)))), (4, .long (lI (rw_ (P.take i)))), (6, .int (iI ((bs (P.take i) : Nat) : Int))), (7, .int (iI ((bs ((P.take (i - 1)).map (S 3)) : Nat) : Int))), (0, .ref (a 0)), (1, .int (iI (P.length : Int)))]) C d_M_keep_103 (by decide) rfl rfl ?_
      have hil : i = P.length := by omega
      subst hil
      have et : P.take P.length = P := List.take_length
      refine GG.lvs (lv' := [(8, .int (iI (R.length : Int))), (2, .int (iI (wp (S 4) P))), (3, .int (iI (wp (S 5) P))), (4, .long (lI (rw_ P))), (6, .int (iI ((bs P : Nat) : Int))), (7, .int (iI ((bs (inn (S 3) P) : Nat) : Int))), (0, .ref (a 0)), (1, .int (iI (P.length : Int)))]) (by rw [et, bs_inn, e_at0]; simp [lk]) ?_
      refine lo_keep2 hG hP hK hl hok hs rfl rfl rfl rfl rfl rfl C hr hk R.length R.length S (Nat.le_refl _) ⟨eqx_rf, Nat.le_refl _, hK.2, fun i h1 h2 => absurd h2 (by omega), fun i h1 h2 => absurd h2 (by omega)⟩
    · have h19n : i < P.length := by omega
      have hk9 : 0 ≤ (P.getD i 0) ∧ (P.getD i 0) < 20 := hA _ (by simp [h19n])
      have ht9 := htr i h19n
      have hop : ok5 (P.take i) := ⟨by have := hP.1; simp; omega, fun k hk => hP.2 k (List.mem_of_mem_take hk)⟩
      have hop2 := rw_a hop
      have hop3 := hP.1
      refine g_aload_n C d_M_keep_22 rfl rfl ?_
      refine g_get C 0 22 i_M wY_0 rfl (by decide) k_M_51 rfl rfl d_M_keep_23 rfl ?_
      refine g_iload C d_M_keep_26 rfl rfl ?_
      refine g_iald C 14 0 wY_14 rfl (by omega) (by omega) (by decide) d_M_keep_28 rfl ?_
      refine g_v (z' := (P.getD i 0)) ht9 ?_
      refine g_nm (fun k9 e_k9 => ?_)
      refine g_istore (lv' := [(9, .int (iI k9)), (8, .int (iI (i : Int))), (2, .int (iI (wp (S 4) (P.take i)))), (3, .int (iI (wp (S 5) (P.take i)))), (4, .long (lI (rw_ (P.take i)))), (6, .int (iI ((bs (P.take i) : Nat) : Int))), (7, .int (iI ((bs ((P.take (i - 1)).map (S 3)) : Nat) : Int))), (0, .ref (a 0)), (1, .int (iI (P.length : Int)))]) C d_M_keep_29 (by decide) rfl rfl ?_
      refine g_iload_n C d_M_keep_31 rfl rfl ?_
      refine g_aload_n C d_M_keep_32 rfl rfl ?_
      refine g_get C 0 4 i_M wY_0 rfl (by decide) k_M_16 rfl rfl d_M_keep_33 rfl ?_
      refine g_iload C d_M_keep_36 rfl rfl ?_
      refine g_iald C 3 0 wY_3 rfl (by omega) (by omega) (by decide) d_M_keep_38 rfl ?_
      refine g_iadd C d_M_keep_39 rfl rfl ?_
      refine g_nm (fun w2 e_w2 => ?_)
      refine g_istore_n (lv' := [(2, .int (iI w2)), (9, .int (iI k9)), (8, .int (iI (i : Int))), (3, .int (iI (wp (S 5) (P.take i)))), (4, .long (lI (rw_ (P.take i)))), (6, .int (iI ((bs (P.take i) : Nat) : Int))), (7, .int (iI ((bs ((P.take (i - 1)).map (S 3)) : Nat) : Int))), (0, .ref (a 0)), (1, .int (iI (P.length : Int)))]) C d_M_keep_40 (by decide) rfl rfl ?_
      refine g_iload_n C d_M_keep_41 rfl rfl ?_
      refine g_aload_n C d_M_keep_42 rfl rfl ?_
      refine g_get C 0 5 i_M wY_0 rfl (by decide) k_M_19 rfl rfl d_M_keep_43 rfl ?_
      refine g_iload C d_M_keep_46 rfl rfl ?_
      refine g_iald C 4 0 wY_4 rfl (by omega) (by omega) (by decide) d_M_keep_48 rfl ?_
      refine g_iadd C d_M_keep_49 rfl rfl ?_
      refine g_nm (fun s2 e_s2 => ?_)
      refine g_istore_n (lv' := [(3, .int (iI s2)), (2, .int (iI w2)), (9, .int (iI k9)), (8, .int (iI (i : Int))), (4, .long (lI (rw_ (P.take i)))), (6, .int (iI ((bs (P.take i) : Nat) : Int))), (7, .int (iI ((bs ((P.take (i - 1)).map (S 3)) : Nat) : Int))), (0, .ref (a 0)), (1, .int (iI (P.length : Int)))]) C d_M_keep_50 (by decide) rfl rfl ?_
      refine g_lload C d_M_keep_51 rfl rfl ?_
      refine g_iconst (z := 5) C d_M_keep_53 rfl rfl ?_
      refine g_lshl (z := rw_ (P.take i) * ((2 ^ 5 : Nat) : Int)) C d_M_keep_54 (lshl_ok hop2.1 (by decide) (by decide)) rfl ?_
      refine g_iload C d_M_keep_55 rfl rfl ?_
      refine g_i2l (z := (P.getD i 0)) C d_M_keep_57 (by rw [e_k9]; exact i2l_ok (by omega)) rfl ?_
      refine g_lor (z := rw_ (P.take i) * ((2 ^ 5 : Nat) : Int) + (P.getD i 0)) C d_M_keep_58 (lor_ok 5 (by decide) hop2.1 hk9.1 (by omega) (by omega)) rfl ?_
      refine g_nml (fun r2 e_r2 => ?_)
      refine g_lstore (lv' := [(4, .long (lI r2)), (3, .int (iI s2)), (2, .int (iI w2)), (9, .int (iI k9)), (8, .int (iI (i : Int))), (6, .int (iI ((bs (P.take i) : Nat) : Int))), (7, .int (iI ((bs ((P.take (i - 1)).map (S 3)) : Nat) : Int))), (0, .ref (a 0)), (1, .int (iI (P.length : Int)))]) C d_M_keep_59 (by decide) rfl rfl ?_
      refine g_iload C d_M_keep_61 rfl rfl ?_
      refine g_iconst (z := 1) C d_M_keep_63 rfl rfl ?_
      refine g_iload C d_M_keep_64 rfl rfl ?_
      refine g_ishl (z := ((2 ^ (P.getD i 0).toNat : Nat) : Int)) C d_M_keep_66 (by rw [e_k9]; exact ishl_ok hk9.1 (by omega)) rfl ?_
      refine g_ior (z := ((bs (P.take i) ||| 2 ^ (P.getD i 0).toNat : Nat) : Int)) C d_M_keep_67 ior_ok rfl ?_
      refine g_nm (fun x2 e_x2 => ?_)
      refine g_istore (lv' := [(6, .int (iI x2)), (4, .long (lI r2)), (3, .int (iI s2)), (2, .int (iI w2)), (9, .int (iI k9)), (8, .int (iI (i : Int))), (7, .int (iI ((bs ((P.take (i - 1)).map (S 3)) : Nat) : Int))), (0, .ref (a 0)), (1, .int (iI (P.length : Int)))]) C d_M_keep_68 (by decide) rfl rfl ?_
      refine g_iload C d_M_keep_70 rfl rfl ?_
      refine g_iload C d_M_keep_72 rfl rfl ?_
      refine g_if_le (tgt := 89) C d_M_keep_74 (by decide) rfl (by omega) (fun h74 => ?_) (fun h74 => ?_)
      · refine g_iconst (z := 0) C d_M_keep_89 rfl rfl ?_
        refine g_ior (z := ((bs ((P.take (i + 1 - 1)).map (S 3)) : Nat) : Int)) C d_M_keep_90 (by first | exact nd_ok (by omega) (by omega) | exact nd_z (by omega)) rfl ?_
        refine g_nm (fun y2 e_y2 => ?_)
        refine g_istore (lv' := [(7, .int (iI y2)), (6, .int (iI x2)), (4, .long (lI r2)), (3, .int (iI s2)), (2, .int (iI w2)), (9, .int (iI k9)), (8, .int (iI (i : Int))), (0, .ref (a 0)), (1, .int (iI (P.length : Int)))]) C d_M_keep_91 (by decide) rfl rfl ?_
        obtain ⟨i2, e_i2⟩ : ∃ z : Int, z = (i : Int) + 1 := ⟨_, rfl⟩
        refine g_iinc (q := 6) (z := i2) (lv' := [(8, .int (iI i2)), (7, .int (iI y2)), (6, .int (iI x2)), (4, .long (lI r2)), (3, .int (iI s2)), (2, .int (iI w2)), (9, .int (iI k9)), (0, .ref (a 0)), (1, .int (iI (P.length : Int)))]) C d_M_keep_93 rfl e_i2.symm (by decide) rfl rfl ?_
        refine g_goto (tgt := 16) C d_M_keep_96 (by decide) ?_
        refine GG.lvs (lv' := [(8, .int (iI ((i + 1 : Nat) : Int))), (2, .int (iI (wp (S 4) (P.take (i + 1))))), (3, .int (iI (wp (S 5) (P.take (i + 1))))), (4, .long (lI (rw_ (P.take (i + 1))))), (6, .int (iI ((bs (P.take (i + 1)) : Nat) : Int))), (7, .int (iI ((bs ((P.take (i + 1 - 1)).map (S 3)) : Nat) : Int))), (0, .ref (a 0)), (1, .int (iI (P.length : Int)))]) ?_ (ih (i + 1) (by omega) (by omega))
        have q1 : i2 = ((i + 1 : Nat) : Int) := by omega
        have q2 : w2 = wp (S 4) (P.take (i + 1)) := by rw [tk_s h19n, wp_app, e_w2, e_k9]; simp [wp]
        have q3 : s2 = wp (S 5) (P.take (i + 1)) := by rw [tk_s h19n, wp_app, e_s2, e_k9]; simp [wp]
        have q4 : r2 = rw_ (P.take (i + 1)) := by rw [tk_s h19n, rw_app, e_r2]; rfl
        have q5 : x2 = ((bs (P.take (i + 1)) : Nat) : Int) := by rw [tk_s h19n, bs_app, e_x2]
        rw [q1, q2, q3, q4, q5, e_y2]
        simp [lk]
      · refine g_iconst (z := 1) C d_M_keep_77 rfl rfl ?_
        refine g_aload_n C d_M_keep_78 rfl rfl ?_
        refine g_get C 0 23 i_M wY_0 rfl (by decide) k_M_54 rfl rfl d_M_keep_79 rfl ?_
        refine g_iload C d_M_keep_82 rfl rfl ?_
        refine g_iald C 15 0 wY_15 rfl (by omega) (by omega) (by decide) d_M_keep_84 rfl ?_
        refine g_v (z' := (S 3 (P.getD (i - 1) 0))) (hst i (by omega) h19n) ?_
        refine g_ishl (z := ((2 ^ (S 3 (P.getD (i - 1) 0)).toNat : Nat) : Int)) C d_M_keep_85 (ishl_ok (hG.2.2.2.2.1 _).2.2.1 (by have := (hG.2.2.2.2.1 (P.getD (i - 1) 0)).2.2.2.1; omega)) rfl ?_
        refine g_goto (tgt := 90) C d_M_keep_86 (by decide) ?_
        refine g_ior (z := ((bs ((P.take (i + 1 - 1)).map (S 3)) : Nat) : Int)) C d_M_keep_90 (by first | exact nd_ok (by omega) (by omega) | exact nd_z (by omega)) rfl ?_
        refine g_nm (fun y2 e_y2 => ?_)
        refine g_istore (lv' := [(7, .int (iI y2)), (6, .int (iI x2)), (4, .long (lI r2)), (3, .int (iI s2)), (2, .int (iI w2)), (9, .int (iI k9)), (8, .int (iI (i : Int))), (0, .ref (a 0)), (1, .int (iI (P.length : Int)))]) C d_M_keep_91 (by decide) rfl rfl ?_
        obtain ⟨i2, e_i2⟩ : ∃ z : Int, z = (i : Int) + 1 := ⟨_, rfl⟩
        refine g_iinc (q := 6) (z := i2) (lv' := [(8, .int (iI i2)), (7, .int (iI y2)), (6, .int (iI x2)), (4, .long (lI r2)), (3, .int (iI s2)), (2, .int (iI w2)), (9, .int (iI k9)), (0, .ref (a 0)), (1, .int (iI (P.length : Int)))]) C d_M_keep_93 rfl e_i2.symm (by decide) rfl rfl ?_
        refine g_goto (tgt := 16) C d_M_keep_96 (by decide) ?_
        refine GG.lvs (lv' := [(8, .int (iI ((i + 1 : Nat) : Int))), (2, .int (iI (wp (S 4) (P.take (i + 1))))), (3, .int (iI (wp (S 5) (P.take (i + 1))))), (4, .long (lI (rw_ (P.take (i + 1))))), (6, .int (iI ((bs (P.take (i + 1)) : Nat) : Int))), (7, .int (iI ((bs ((P.take (i + 1 - 1)).map (S 3)) : Nat) : Int))), (0, .ref (a 0)), (1, .int (iI (P.length : Int)))]) ?_ (ih (i + 1) (by omega) (by omega))
        have q1 : i2 = ((i + 1 : Nat) : Int) := by omega
        have q2 : w2 = wp (S 4) (P.take (i + 1)) := by rw [tk_s h19n, wp_app, e_w2, e_k9]; simp [wp]
        have q3 : s2 = wp (S 5) (P.take (i + 1)) := by rw [tk_s h19n, wp_app, e_s2, e_k9]; simp [wp]
        have q4 : r2 = rw_ (P.take (i + 1)) := by rw [tk_s h19n, rw_app, e_r2]; rfl
        have q5 : x2 = ((bs (P.take (i + 1)) : Nat) : Int) := by rw [tk_s h19n, bs_app, e_x2]
        rw [q1, q2, q3, q4, q5, e_y2]
        simp [lk]

set_option maxRecDepth 100000 in
set_option maxHeartbeats 4000000 in
theorem m_M_keep {l : Launch} {D : va_G} {a : Nat → Nat} {ki kz kl kq : ClassId} {S : Nat → Int → Int} {P : List Int} {R : List (List Int)} (hG : GJ S) (hP : ok5 P) (hK : KP S R) (hl : R.length < 4000) (hok : ∀ Q, Q ∈ R → ok5 Q) (hs : R.Pairwise (fun A B => cd (S 4) A ≤ cd (S 4) B)) (hA : ∀ k, k ∈ P → 0 ≤ k ∧ k < 20) (htr : ∀ j : Nat, j < P.length → S 22 j = P.getD j 0) (hst : ∀ j : Nat, 0 < j → j < P.length → S 23 j = S 3 (P.getD (j - 1) 0)) : MY l D a ki kz kl kq y_M_keep b_M_keep 10 none rm_M_keep [.ref (a 0), .int (iI (P.length : Int))] S (pV fun S' => eqx [7, 8, 9, 10, 11, 12, 13] S S' ∧ ∃ R', KP S' R' ∧ R'.Perm (P :: R) ∧ R'.Pairwise (fun A B => cd (S 4) A ≤ cd (S 4) B)) := by
  refine MM.go b_M_keep 10 none "NextPathsModel" [(0, .ref (a 0)), (1, .int (iI (P.length : Int)))] (by decide) rfl rfl (Nat.le_of_ble_eq_true rfl) ?_
  intro p e s m args below meth c C hr hk
  refine g_iconst (z := 0) C d_M_keep_0 rfl rfl ?_
  refine g_nm (fun w0 e_w0 => ?_)
  refine g_istore_n (lv' := [(2, .int (iI w0)), (0, .ref (a 0)), (1, .int (iI (P.length : Int)))]) C d_M_keep_1 (by decide) rfl rfl ?_
  refine g_iconst (z := 0) C d_M_keep_2 rfl rfl ?_
  refine g_nm (fun s0 e_s0 => ?_)
  refine g_istore_n (lv' := [(3, .int (iI s0)), (2, .int (iI w0)), (0, .ref (a 0)), (1, .int (iI (P.length : Int)))]) C d_M_keep_3 (by decide) rfl rfl ?_
  refine g_lconst (z := 0) C d_M_keep_4 rfl rfl ?_
  refine g_nml (fun r0 e_r0 => ?_)
  refine g_lstore (lv' := [(4, .long (lI r0)), (3, .int (iI s0)), (2, .int (iI w0)), (0, .ref (a 0)), (1, .int (iI (P.length : Int)))]) C d_M_keep_5 (by decide) rfl rfl ?_
  refine g_iconst (z := 0) C d_M_keep_7 rfl rfl ?_
  refine g_nm (fun x0 e_x0 => ?_)
  refine g_istore (lv' := [(6, .int (iI x0)), (4, .long (lI r0)), (3, .int (iI s0)), (2, .int (iI w0)), (0, .ref (a 0)), (1, .int (iI (P.length : Int)))]) C d_M_keep_8 (by decide) rfl rfl ?_
  refine g_iconst (z := 0) C d_M_keep_10 rfl rfl ?_
  refine g_nm (fun y0 e_y0 => ?_)
  refine g_istore (lv' := [(7, .int (iI y0)), (6, .int (iI x0)), (4, .long (lI r0)), (3, .int (iI s0)), (2, .int (iI w0)), (0, .ref (a 0)), (1, .int (iI (P.length : Int)))]) C d_M_keep_11 (by decide) rfl rfl ?_
  refine g_iconst (z := 0) C d_M_keep_13 rfl rfl ?_
  refine g_nm (fun i0 e_i0 => ?_)
  refine g_istore (lv' := [(8, .int (iI i0)), (7, .int (iI y0)), (6, .int (iI x0)), (4, .long (lI r0)), (3, .int (iI s0)), (2, .int (iI w0)), (0, .ref (a 0)), (1, .int (iI (P.length : Int)))]) C d_M_keep_14 (by decide) rfl rfl ?_
  subst e_w0
  subst e_s0
  subst e_r0
  subst e_x0
  subst e_y0
  subst e_i0
  refine GG.lvs (lv' := [(8, .int (iI ((0 : Nat) : Int))), (2, .int (iI (wp (S 4) (P.take 0)))), (3, .int (iI (wp (S 5) (P.take 0)))), (4, .long (lI (rw_ (P.take 0)))), (6, .int (iI ((bs (P.take 0) : Nat) : Int))), (7, .int (iI ((bs ((P.take (0 - 1)).map (S 3)) : Nat) : Int))), (0, .ref (a 0)), (1, .int (iI (P.length : Int)))]) (by simp [lk, wp, rw_, bs]) ?_
  exact lo_keep1 hG hP hK hl hok hs hA htr hst C hr hk _ 0 (by omega) (Nat.le_add_left _ _)

