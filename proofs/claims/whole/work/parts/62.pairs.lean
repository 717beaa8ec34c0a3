/-! the class: pairs -/
/-- the pairs of B, the last one first, stand in the arrays -/
def PB (S : Nat → Int → Int) (B : List (Int × Int)) : Prop := S 36 0 = B.length ∧ ∀ i : Nat, i < B.length → S 34 (i : Int) = (B.reverse.getD i (0, 0)).1 ∧ S 35 (i : Int) = (B.reverse.getD i (0, 0)).2
theorem rev_last {q : Int × Int} {B : List (Int × Int)} : (q :: B).reverse.getD B.length (0, 0) = q := by
  rw [List.reverse_cons]
  simp
theorem rev_old {q : Int × Int} {B : List (Int × Int)} {i : Nat} (h : i < B.length) : (q :: B).reverse.getD i (0, 0) = B.reverse.getD i (0, 0) := by
  rw [List.reverse_cons]
  simp [List.getElem?_append_left (show i < B.reverse.length by simpa using h)]
theorem PB_nil {S : Nat → Int → Int} : PB (us S 36 0 0) [] := ⟨rfl, fun i hi => by simp at hi⟩
theorem PB_push {S : Nat → Int → Int} {B : List (Int × Int)} {x y : Int} (h : PB S B) : PB (us (us (us S 34 B.length x) 35 B.length y) 36 0 ((B.length : Int) + 1)) ((x, y) :: B) := by
  refine ⟨by rw [us_s, up_s]; simp, fun i hi => ?_⟩
  rw [us_n (by decide), us_n (by decide), us_s, us_n (by decide), us_s, us_n (by decide)]
  by_cases e : i = B.length
  · subst e; rw [up_s, up_s, rev_last]; exact ⟨rfl, rfl⟩
  · have hi2 : i < B.length := by simp at hi; omega
    rw [up_n (by omega), up_n (by omega), rev_old hi2]
    exact h.2 i hi2
theorem PB_pop {S : Nat → Int → Int} {q : Int × Int} {B : List (Int × Int)} (h : PB S (q :: B)) : PB (us S 36 0 (B.length : Int)) B := by
  refine ⟨by rw [us_s, up_s], fun i hi => ?_⟩
  rw [us_n (by decide), us_n (by decide), ← rev_old (q := q) hi]
  exact h.2 i (by simp; omega)
theorem PB_top {S : Nat → Int → Int} {q : Int × Int} {B : List (Int × Int)} (h : PB S (q :: B)) : S 36 0 = (B.length : Int) + 1 ∧ S 34 (B.length : Int) = q.1 ∧ S 35 (B.length : Int) = q.2 := by
  have h1 := h.2 B.length (by simp)
  rw [rev_last] at h1
  exact ⟨by rw [h.1]; simp, h1.1, h1.2⟩

set_option maxRecDepth 100000 in
set_option maxHeartbeats 4000000 in
theorem m_B_offer0 {l : Launch} {D : va_G} {a : Nat → Nat} {ki kz kl kq : ClassId} {S : Nat → Int → Int} {x y : Int} (hB : PB S []) (hx : r32 x) (hy : r32 y) : MX l D a ki kz kl kq y_B_offer b_B_offer 3 none rm_B_offer [.ref (a 24), .int (iI x), .int (iI y)] S (pV fun S' => eqx [34, 35, 36] S S' ∧ PB S' (of1 [] (x, y))) := by
  refine MM.go b_B_offer 3 none "NextPaths$BestPairs" [(0, .ref (a 24)), (1, .int (iI x)), (2, .int (iI y))] (by decide) rfl rfl (Nat.le_of_ble_eq_true rfl) ?_
  intro p e s m args below meth c C hr hk
  have h36 : S 36 0 = 0 := hB.1
  refine g_aload_n C d_B_offer_0 rfl rfl ?_
  refine g_get C 24 2 i_B wX_24 rfl (by decide) k_B_18 rfl rfl d_B_offer_1 rfl ?_
  refine g_v (z' := 0) h36 ?_
  refine g_if_le (tgt := 23) C d_B_offer_4 (by decide) rfl (by omega) (fun h4 => ?_) (fun h4 => ?_)
  · refine g_aload_n C d_B_offer_23 rfl rfl ?_
    refine g_get C 24 2 i_B wX_24 rfl (by decide) k_B_18 rfl rfl d_B_offer_24 rfl ?_
    refine g_v (z' := 0) h36 ?_
    refine g_if_le (tgt := 55) C d_B_offer_27 (by decide) rfl (by omega) (fun h27 => ?_) (fun h27 => ?_)
    · refine g_aload_n C d_B_offer_55 rfl rfl ?_
      refine g_get C 24 2 i_B wX_24 rfl (by decide) k_B_18 rfl rfl d_B_offer_56 rfl ?_
      refine g_v (z' := 0) h36 ?_
      refine g_sipush (z := 1458) C d_B_offer_59 rfl (by decide) ?_
      refine g_icmp_ge (tgt := 95) C d_B_offer_62 (by decide) rfl (by omega) (by omega) (fun h62 => ?_) (fun h62 => ?_)
      · exact absurd h62 (by omega)
      · refine g_aload_n C d_B_offer_65 rfl rfl ?_
        refine g_get C 24 0 i_B wX_24 rfl (by decide) k_B_9 rfl rfl d_B_offer_66 rfl ?_
        refine g_aload_n C d_B_offer_69 rfl rfl ?_
        refine g_get C 24 2 i_B wX_24 rfl (by decide) k_B_18 rfl rfl d_B_offer_70 rfl ?_
        refine g_v (z' := 0) h36 ?_
        refine g_iload_n C d_B_offer_73 rfl rfl ?_
        refine g_iast C 25 0 wX_25 rfl (by omega) (by omega) (by decide) wX_s25 d_B_offer_74 rfl ?_
        refine g_aload_n C d_B_offer_75 rfl rfl ?_
        refine g_get C 24 1 i_B wX_24 rfl (by decide) k_B_15 rfl rfl d_B_offer_76 rfl ?_
        refine g_aload_n C d_B_offer_79 rfl rfl ?_
        refine g_get C 24 2 i_B wX_24 rfl (by decide) k_B_18 rfl rfl d_B_offer_80 rfl ?_
        refine g_v (z' := 0) h36 ?_
        refine g_iload_n C d_B_offer_83 rfl rfl ?_
        refine g_iast C 26 0 wX_26 rfl (by omega) (by omega) (by decide) wX_s26 d_B_offer_84 rfl ?_
        refine g_aload_n C d_B_offer_85 rfl rfl ?_
        refine g_dup C d_B_offer_86 rfl rfl ?_
        refine g_get C 24 2 i_B wX_24 rfl (by decide) k_B_18 rfl rfl d_B_offer_87 rfl ?_
        refine g_v (z' := 0) h36 ?_
        refine g_iconst (z := 1) C d_B_offer_90 rfl rfl ?_
        refine g_iadd C d_B_offer_91 rfl rfl ?_
        refine g_put (ty := .int) C 24 2 ty_B i_B ty_B_ok n_B wX_24 rfl (by decide) k_B_18 rfl rfl (by decide +kernel) rfl rfl (Nat.le_of_ble_eq_true rfl) wX_p24_2 d_B_offer_92 rfl ?_
        refine g_vret C hr hk d_B_offer_95 ⟨rfl, ?_⟩
        exact ⟨eqx_us (eqx_us (eqx_us eqx_rf (by simp)) (by simp)) (by simp), PB_push (B := []) hB⟩
    · exact absurd h27 (by omega)
  · exact absurd h4 (by omega)

set_option maxRecDepth 100000 in
set_option maxHeartbeats 4000000 in
theorem of_end {l : Launch} {D : va_G} {a : Nat → Nat} {ki kz kl kq : ClassId} {p : Program} {e : Env} {s : State} {m : MethodId} {args : Array Value} {below : List Frame} {meth : Method} {c : Code} {S0 S : Nat → Int → Int} {x y : Int} {n : Nat} {f : (Nat → Int → Int) → Prop} (C : CX p s m args c b_B_offer 3 "NextPaths$BestPairs" TT D cls (tyz ki kz kl kq)) (hr : meth.sig.returnType = none) (hk : meth.locks = false) (hn8 : n < 1458) (hn : S 36 0 = n) (hx : r32 x) (hy : r32 y) (hf : ∀ S', S' = us (us (us S 34 n x) 35 n y) 36 0 ((n : Int) + 1) → f S') : GG p l e rm_B_offer s m args below meth c D cls (adr (wX a ki kz kl kq S0)) 3 0 0 (MQ below (QcW D cls (wX a ki kz kl kq) S0 (pV f)) args s 0 0 (adr (wX a ki kz kl kq S0))) (wX a ki kz kl kq) S [(0, .ref (a 24)), (1, .int (iI x)), (2, .int (iI y))] 55 [] := by
  refine g_aload_n C d_B_offer_55 rfl rfl ?_
  refine g_get C 24 2 i_B wX_24 rfl (by decide) k_B_18 rfl rfl d_B_offer_56 rfl ?_
  refine g_v (z' := (n : Int)) hn ?_
  refine g_sipush (z := 1458) C d_B_offer_59 rfl (by decide) ?_
  refine g_icmp_ge (tgt := 95) C d_B_offer_62 (by decide) rfl (by omega) (by omega) (fun h62 => ?_) (fun h62 => ?_)
  · exact absurd h62 (by omega)
  · refine g_aload_n C d_B_offer_65 rfl rfl ?_
    refine g_get C 24 0 i_B wX_24 rfl (by decide) k_B_9 rfl rfl d_B_offer_66 rfl ?_
    refine g_aload_n C d_B_offer_69 rfl rfl ?_
    refine g_get C 24 2 i_B wX_24 rfl (by decide) k_B_18 rfl rfl d_B_offer_70 rfl ?_
    refine g_v (z' := (n : Int)) hn ?_
    refine g_iload_n C d_B_offer_73 rfl rfl ?_
    refine g_iast C 25 0 wX_25 rfl (by omega) (by omega) (by decide) wX_s25 d_B_offer_74 rfl ?_
    refine g_aload_n C d_B_offer_75 rfl rfl ?_
    refine g_get C 24 1 i_B wX_24 rfl (by decide) k_B_15 rfl rfl d_B_offer_76 rfl ?_
    refine g_aload_n C d_B_offer_79 rfl rfl ?_
    refine g_get C 24 2 i_B wX_24 rfl (by decide) k_B_18 rfl rfl d_B_offer_80 rfl ?_
    refine g_v (z' := (n : Int)) hn ?_
    refine g_iload_n C d_B_offer_83 rfl rfl ?_
    refine g_iast C 26 0 wX_26 rfl (by omega) (by omega) (by decide) wX_s26 d_B_offer_84 rfl ?_
    refine g_aload_n C d_B_offer_85 rfl rfl ?_
    refine g_dup C d_B_offer_86 rfl rfl ?_
    refine g_get C 24 2 i_B wX_24 rfl (by decide) k_B_18 rfl rfl d_B_offer_87 rfl ?_
    refine g_v (z' := (n : Int)) hn ?_
    refine g_iconst (z := 1) C d_B_offer_90 rfl rfl ?_
    refine g_iadd C d_B_offer_91 rfl rfl ?_
    refine g_put (ty := .int) C 24 2 ty_B i_B ty_B_ok n_B wX_24 rfl (by decide) k_B_18 rfl rfl (by decide +kernel) rfl rfl (Nat.le_of_ble_eq_true rfl) wX_p24_2 d_B_offer_92 rfl ?_
    refine g_vret C hr hk d_B_offer_95 ⟨rfl, ?_⟩
    exact hf _ rfl

set_option maxRecDepth 100000 in
set_option maxHeartbeats 4000000 in
theorem m_B_offer1 {l : Launch} {D : va_G} {a : Nat → Nat} {ki kz kl kq : ClassId} {S : Nat → Int → Int} {x y : Int} {q : Int × Int} {B : List (Int × Int)} (hB : PB S (q :: B)) (hlen : B.length + 1 < 1458) (hx : r32 x) (hy : r32 y) (hq1 : r32 q.1) (hq2 : r32 q.2) : MX l D a ki kz kl kq y_B_offer b_B_offer 3 none rm_B_offer [.ref (a 24), .int (iI x), .int (iI y)] S (pV fun S' => eqx [34, 35, 36] S S' ∧ PB S' (of1 (q :: B) (x, y))) := by
  refine MM.go b_B_offer 3 none "NextPaths$BestPairs" [(0, .ref (a 24)), (1, .int (iI x)), (2, .int (iI y))] (by decide) rfl rfl (Nat.le_of_ble_eq_true rfl) ?_
  intro p e s m args below meth c C hr hk
  obtain ⟨h36, h34, h35⟩ := PB_top hB
  refine g_aload_n C d_B_offer_0 rfl rfl ?_
  refine g_get C 24 2 i_B wX_24 rfl (by decide) k_B_18 rfl rfl d_B_offer_1 rfl ?_
  refine g_v (z' := ((B.length : Int) + 1)) h36 ?_
  refine g_if_le (tgt := 23) C d_B_offer_4 (by decide) rfl (by omega) (fun h4 => ?_) (fun h4 => ?_)
  · exact absurd h4 (by omega)
  · refine g_aload_n C d_B_offer_7 rfl rfl ?_
    refine g_get C 24 1 i_B wX_24 rfl (by decide) k_B_15 rfl rfl d_B_offer_8 rfl ?_
    refine g_aload_n C d_B_offer_11 rfl rfl ?_
    refine g_get C 24 2 i_B wX_24 rfl (by decide) k_B_18 rfl rfl d_B_offer_12 rfl ?_
    refine g_v (z' := ((B.length : Int) + 1)) h36 ?_
    refine g_iconst (z := 1) C d_B_offer_15 rfl rfl ?_
    refine g_isub (z := (B.length : Int)) C d_B_offer_16 (by omega) rfl ?_
    refine g_iald C 26 0 wX_26 rfl (by omega) (by omega) (by decide) d_B_offer_17 rfl ?_
    refine g_v (z' := q.2) h35 ?_
    refine g_iload_n C d_B_offer_18 rfl rfl ?_
    refine g_icmp_gt (tgt := 23) C d_B_offer_19 (by decide) rfl (by omega) (by omega) (fun h19 => ?_) (fun h19 => ?_)
    · refine g_aload_n C d_B_offer_23 rfl rfl ?_
      refine g_get C 24 2 i_B wX_24 rfl (by decide) k_B_18 rfl rfl d_B_offer_24 rfl ?_
      refine g_v (z' := ((B.length : Int) + 1)) h36 ?_
      refine g_if_le (tgt := 55) C d_B_offer_27 (by decide) rfl (by omega) (fun h27 => ?_) (fun h27 => ?_)
      · exact absurd h27 (by omega)
      · refine g_aload_n C d_B_offer_30 rfl rfl ?_
        refine g_get C 24 0 i_B wX_24 rfl (by decide) k_B_9 rfl rfl d_B_offer_31 rfl ?_
        refine g_aload_n C d_B_offer_34 rfl rfl ?_
        refine g_get C 24 2 i_B wX_24 rfl (by decide) k_B_18 rfl rfl d_B_offer_35 rfl ?_
        refine g_v (z' := ((B.length : Int) + 1)) h36 ?_
        refine g_iconst (z := 1) C d_B_offer_38 rfl rfl ?_
        refine g_isub (z := (B.length : Int)) C d_B_offer_39 (by omega) rfl ?_
        refine g_iald C 25 0 wX_25 rfl (by omega) (by omega) (by decide) d_B_offer_40 rfl ?_
        refine g_v (z' := q.1) h34 ?_
        refine g_iload_n C d_B_offer_41 rfl rfl ?_
        refine g_icmp_ne (tgt := 55) C d_B_offer_42 (by decide) rfl (by omega) (by omega) (fun h42 => ?_) (fun h42 => ?_)
        · first
            | (have e1 : q.1 = x := h42
               have ef : of1 (q :: B) (x, y) = (x, y) :: B := by simp only [of1]; rw [if_neg (by omega), if_pos e1]
               rw [ef]
               exact of_end C hr hk (n := B.length) (by omega) (by rw [us_s, up_s]) hx hy (fun S' e => ⟨by rw [e]; exact eqx_us (eqx_us (eqx_us (eqx_us eqx_rf (by simp)) (by simp)) (by simp)) (by simp), by rw [e]; exact PB_push (PB_pop hB)⟩))
            | (have e1 : ¬ q.1 = x := h42
               have ef : of1 (q :: B) (x, y) = (x, y) :: q :: B := by simp only [of1]; rw [if_neg (by omega), if_neg e1]
               rw [ef]
               exact of_end C hr hk (n := B.length + 1) (by omega) (by rw [h36]; omega) hx hy (fun S' e => ⟨by rw [e]; exact eqx_us (eqx_us (eqx_us eqx_rf (by simp)) (by simp)) (by simp), by rw [e]; exact PB_push hB⟩))
        · refine g_aload_n C d_B_offer_45 rfl rfl ?_
          refine g_dup C d_B_offer_46 rfl rfl ?_
          refine g_get C 24 2 i_B wX_24 rfl (by decide) k_B_18 rfl rfl d_B_offer_47 rfl ?_
          refine g_v (z' := ((B.length : Int) + 1)) h36 ?_
          refine g_iconst (z := 1) C d_B_offer_50 rfl rfl ?_
          refine g_isub (z := (B.length : Int)) C d_B_offer_51 (by omega) rfl ?_
          refine g_put (ty := .int) C 24 2 ty_B i_B ty_B_ok n_B wX_24 rfl (by decide) k_B_18 rfl rfl (by decide +kernel) rfl rfl (Nat.le_of_ble_eq_true rfl) wX_p24_2 d_B_offer_52 rfl ?_
          first
            | (have e1 : q.1 = x := h42
               have ef : of1 (q :: B) (x, y) = (x, y) :: B := by simp only [of1]; rw [if_neg (by omega), if_pos e1]
               rw [ef]
               exact of_end C hr hk (n := B.length) (by omega) (by rw [us_s, up_s]) hx hy (fun S' e => ⟨by rw [e]; exact eqx_us (eqx_us (eqx_us (eqx_us eqx_rf (by simp)) (by simp)) (by simp)) (by simp), by rw [e]; exact PB_push (PB_pop hB)⟩))
            | (have e1 : ¬ q.1 = x := h42
               have ef : of1 (q :: B) (x, y) = (x, y) :: q :: B := by simp only [of1]; rw [if_neg (by omega), if_neg e1]
               rw [ef]
               exact of_end C hr hk (n := B.length + 1) (by omega) (by rw [h36]; omega) hx hy (fun S' e => ⟨by rw [e]; exact eqx_us (eqx_us (eqx_us eqx_rf (by simp)) (by simp)) (by simp), by rw [e]; exact PB_push hB⟩))
    · refine g_vret C hr hk d_B_offer_22 ⟨rfl, ?_⟩
      refine ⟨eqx_rf, ?_⟩
      have ef : of1 (q :: B) (x, y) = q :: B := by simp only [of1]; rw [if_pos (by omega)]
      rw [ef]; exact hB

theorem m_B_offer {l : Launch} {D : va_G} {a : Nat → Nat} {ki kz kl kq : ClassId} {S : Nat → Int → Int} {x y : Int} {B : List (Int × Int)} (hB : PB S B) (hlen : B.length < 1458) (hx : r32 x) (hy : r32 y) (hq : ∀ q, q ∈ B → r32 q.1 ∧ r32 q.2) : MX l D a ki kz kl kq y_B_offer b_B_offer 3 none rm_B_offer [.ref (a 24), .int (iI x), .int (iI y)] S (pV fun S' => eqx [34, 35, 36] S S' ∧ PB S' (of1 B (x, y))) := by
  cases B with
  | nil => exact m_B_offer0 hB hx hy
  | cons q B => exact m_B_offer1 hB (by simpa using hlen) hx hy (hq q List.mem_cons_self).1 (hq q List.mem_cons_self).2

/-- the pair of a path -/
abbrev prS (S : Nat → Int → Int) (P : List Int) : Int × Int := (wp (S 4) P, wp (S 5) P)
abbrev prsS (S : Nat → Int → Int) (u v : Int) : List (Int × Int) := (spS S u v).map (prS S)
theorem of1_len {B : List (Int × Int)} {p : Int × Int} : (of1 B p).length ≤ B.length + 1 := by
  cases B with
  | nil => simp [of1]
  | cons q B => simp only [of1]; split; simp; split <;> simp
theorem prsS_take {S : Nat → Int → Int} {u v : Int} {i : Nat} (h : i < (spS S u v).length) : (prsS S u v).take (i + 1) = (prsS S u v).take i ++ [prS S ((spS S u v).getD i [])] := by
  rw [List.take_add_one]
  simp [h]
theorem prsS_nn {S : Nat → Int → Int} (hG : GIs S) (P : List Int) : 0 ≤ (prS S P).1 ∧ 0 ≤ (prS S P).2 := ⟨(wp_bd (fun k => ⟨(hG.2.2.1.2.2.1 k).2.2.2.2.1, (hG.2.2.1.2.2.1 k).2.2.2.2.2.1⟩) P).1, (wp_bd (fun k => ⟨(hG.2.2.1.2.2.1 k).2.2.2.2.2.2.1, (hG.2.2.1.2.2.1 k).2.2.2.2.2.2.2.1⟩) P).1⟩
theorem prsS_fnt {S : Nat → Int → Int} {u v : Int} {i : Nat} {B : List (Int × Int)} (hG : GIs S) (hu : 0 ≤ u ∧ u < S 0 0) (h : i < (spS S u v).length) (hf : fnt ((prsS S u v).take i) B) : fnt ((prsS S u v).take (i + 1)) (of1 B (prS S ((spS S u v).getD i []))) := by
  rw [prsS_take h]
  have hn := hG.1
  refine fnt_step hf (fun q hq => ?_) (prsS_nn hG _) (fun q hq => ?_)
  · obtain ⟨P, -, rfl⟩ := List.mem_map.mp (List.mem_of_mem_take hq)
    exact prsS_nn hG P
  · obtain ⟨j, hj, e⟩ := List.mem_iff_getElem.mp hq
    have hj2 : j < i := by rw [List.length_take] at hj; omega
    have hw := sp_w (b := v) hG.2.2.1 (a := u) (by omega)
    have := List.pairwise_iff_getElem.mp hw j i (show j < (spS S u v).length by omega) h hj2
    rw [← e]
    simp [h]
    exact this

set_option maxRecDepth 100000 in
set_option maxHeartbeats 4000000 in
theorem lo_N_pairs {l : Launch} {D : va_G} {a : Nat → Nat} {ki kz kl kq : ClassId} {p : Program} {e : Env} {s : State} {m : MethodId} {args : Array Value} {below : List Frame} {meth : Method} {c : Code} {S0 : Nat → Int → Int} {u v : Int} (hG : GIs S0) (h2 : twoS S0 u v) (hl58 : (spS S0 u v).length ≤ 1458) (C : CX p s m args c b_N_pairs 6 "NextPaths" TT D cls (tyz ki kz kl kq)) (hr : meth.sig.returnType = (some .int)) (hk : meth.locks = false) : ∀ (j i : Nat) (S : Nat → Int → Int), i ≤ (spS S0 u v).length → (spS S0 u v).length ≤ i + j → (eqx [16, 17, 18, 19, 20, 34, 35, 36] S0 S ∧ FNh S0 S u v i ∧ ∃ B, fnt ((prsS S0 u v).take i) B ∧ PB S B ∧ B.length ≤ i ∧ ∀ q, q ∈ B → r32 q.1 ∧ r32 q.2) → GG p l e rm_N_pairs s m args below meth c D cls (adr (wX a ki kz kl kq S0)) 6 0 0 (MQ below (QcW D cls (wX a ki kz kl kq) S0 (pI fun r S' => (¬ twoS S0 u v ∧ r = -2 ∧ S' = S0) ∨ (twoS S0 u v ∧ BZ S' ∧ eqx [16, 17, 18, 19, 20, 34, 35, 36] S0 S' ∧ ∃ B, fnt (prsS S0 u v) B ∧ PB S' B ∧ B.length ≤ 1458 ∧ r = B.length))) args s 0 0 (adr (wX a ki kz kl kq S0))) (wX a ki kz kl kq) S [(3, .int (iI (((spS S0 u v).length : Int) - (i : Int)))), (0, .ref (a 0)), (1, .int (iI u)), (2, .int (iI v))] 39 [] := by
  intro j
  induction j with
  | zero =>
    intro i S hi hk0 hI
    refine g_iload_n C d_N_pairs_39 rfl rfl ?_
    refine g_if_le (tgt := 79) C d_N_pairs_40 (by decide) rfl (by omega) (fun h40 => ?_) (fun h40 => ?_)
    · obtain ⟨B, hB1, hB2, hB3, hB4⟩ := hI.2.2
      refine g_aload_n C d_N_pairs_79 rfl rfl ?_
      refine g_get C 0 5 i_N wX_0 rfl (by decide) k_N_51 rfl rfl d_N_pairs_80 rfl ?_
      refine g_getN C 24 2 i_B wX_24 rfl (by decide) k_N_132 rfl rfl d_N_pairs_83 rfl ?_
      refine g_v (z' := (B.length : Int)) hB2.1 ?_
      refine g_iret C hr hk d_N_pairs_86 ⟨_, rfl, ?_⟩
      have hil : i = (spS S0 u v).length := by omega
      subst hil
      rw [List.take_of_length_le (by simp)] at hB1
      exact Or.inr ⟨by omega, hI.2.1.1, hI.1, B, hB1, hB2, by omega, rfl⟩
    · exact absurd h40 (by omega)
  | succ j ih =>
    intro i S hi hk0 hI
    refine g_iload_n C d_N_pairs_39 rfl rfl ?_
    refine g_if_le (tgt := 79) C d_N_pairs_40 (by decide) rfl (by omega) (fun h40 => ?_) (fun h40 => ?_)
    · obtain ⟨B, hB1, hB2, hB3, hB4⟩ := hI.2.2
      refine g_aload_n C d_N_pairs_79 rfl rfl ?_
      refine g_get C 0 5 i_N wX_0 rfl (by decide) k_N_51 rfl rfl d_N_pairs_80 rfl ?_
      refine g_getN C 24 2 i_B wX_24 rfl (by decide) k_N_132 rfl rfl d_N_pairs_83 rfl ?_
      refine g_v (z' := (B.length : Int)) hB2.1 ?_
      refine g_iret C hr hk d_N_pairs_86 ⟨_, rfl, ?_⟩
      have hil : i = (spS S0 u v).length := by omega
      subst hil
      rw [List.take_of_length_le (by simp)] at hB1
      exact Or.inr ⟨by omega, hI.2.1.1, hI.1, B, hB1, hB2, by omega, rfl⟩
    · have hlt : i < (spS S0 u v).length := by omega
      have pp := FNh_pre hlt hI.2.1 hl58
      refine g_aload_n C d_N_pairs_43 rfl rfl ?_
      refine g_get C 0 1 i_N wX_0 rfl (by decide) k_N_19 rfl rfl d_N_pairs_44 rfl ?_
      refine g_runL (wX_fix a ki kz kl kq) rfl (rn_VN C (m_H_takeFirst (n := (spS S0 u v).length - (i + 1)) pp.1 pp.2.1 pp.2.2.1 pp.2.2.2) 17 0 wX_17 rfl rfl kc_H_takeFirst k_N_105 ki_H_takeFirst kx_H_takeFirst kn_H hy_H_takeFirst ⟨rfl, rfl⟩ ⟨by decide, by decide⟩ ⟨Nat.le_refl _, Nat.le_refl _⟩ rfl rfl (Nat.le_of_ble_eq_true rfl) d_N_pairs_47) (fun r5 S5 hp5 => ?_)
      obtain ⟨er5, hp5⟩ := hp5
      have htk := FNh_take hlt hI.2.1 hp5
      have hat := spS_at hG (by omega) hlt
      have e0 : eqx [16, 17, 18, 19, 20, 34, 35, 36] S0 S5 := eqx_tr hI.1 (eqx_mono hp5.1 (by simp))
      have hx5 : r5 = cd (S0 4) ((spS S0 u v).getD i []) := by rw [er5]; exact htk.2
      have hw4 := wp_bd (W := S0 4) (fun k => ⟨(hG.2.2.1.2.2.1 k).2.2.2.2.1, (hG.2.2.1.2.2.1 k).2.2.2.2.2.1⟩) ((spS S0 u v).getD i [])
      have hw5 := wp_bd (W := S0 5) (fun k => ⟨(hG.2.2.1.2.2.1 k).2.2.2.2.2.2.1, (hG.2.2.1.2.2.1 k).2.2.2.2.2.2.2.1⟩) ((spS S0 u v).getD i [])
      have h77 := hat.1.1
      have hcb := cd_bd (W := S0 4) (fun k => ⟨(hG.2.2.1.2.2.1 k).2.2.2.2.1, (hG.2.2.1.2.2.1 k).2.2.2.2.2.1⟩) hat.1
      obtain ⟨B, hB1, hB2, hB3, hB4⟩ := hI.2.2
      have hPB5 : PB S5 B := by unfold PB at *; rw [hp5.1 36 (by decide), hp5.1 34 (by decide), hp5.1 35 (by decide)]; exact hB2
      refine g_nml (fun x5 e_x5 => ?_)
      refine g_lstore (lv' := [(4, .long (lI x5)), (3, .int (iI (((spS S0 u v).length : Int) - (i : Int)))), (0, .ref (a 0)), (1, .int (iI u)), (2, .int (iI v))]) C d_N_pairs_50 (by decide) rfl rfl ?_
      refine g_aload_n C d_N_pairs_52 rfl rfl ?_
      refine g_get C 0 5 i_N wX_0 rfl (by decide) k_N_51 rfl rfl d_N_pairs_53 rfl ?_
      refine g_lload C d_N_pairs_56 rfl rfl ?_
      refine g_runI (wX_fix a ki kz kl kq) rfl (rn_SN C (m_C_weightIn (by omega)) 1 kc_C_weightIn k_N_124 ks_C_weightIn kn_C hy_C_weightIn ⟨rfl, rfl⟩ ⟨by decide, by decide⟩ ⟨Nat.le_refl _, Nat.le_refl _⟩ rfl rfl (Nat.le_of_ble_eq_true rfl) d_N_pairs_58) (fun r6 S6 hp6 => ?_)
      obtain ⟨hS6, rfl⟩ := hp6
      refine GG.at hS6 ?_
      refine g_v (z' := wp (S0 4) ((spS S0 u v).getD i [])) (by rw [e_x5, hx5]; exact cd_w hat.1) ?_
      refine g_aload_n C d_N_pairs_61 rfl rfl ?_
      refine g_get C 0 0 i_N wX_0 rfl (by decide) k_N_12 rfl rfl d_N_pairs_62 rfl ?_
      refine g_lload C d_N_pairs_65 rfl rfl ?_
      refine g_runI (wX_fix a ki kz kl kq) rfl (rn_VN C (m_G_secondOf (W := S0 4) (P := (spS S0 u v).getD i []) hat.1 (fun k => ⟨(hG.2.2.1.2.2.1 k).2.2.2.2.1, (hG.2.2.1.2.2.1 k).2.2.2.2.2.1⟩) (by rw [e_x5]; exact hx5) (by rw [e0 1 (by decide)]; exact hG.2.1) (by rw [e0 1 (by decide)]; exact hat.2.2) (by rw [e0 5 (by decide)]; exact fun k => ⟨(hG.2.2.1.2.2.1 k).2.2.2.2.2.2.1, (hG.2.2.1.2.2.1 k).2.2.2.2.2.2.2.1⟩)) 1 1 wX_1 rfl rfl kc_G_secondOf k_N_120 ki_G_secondOf kx_G_secondOf kn_G hy_G_secondOf ⟨rfl, rfl⟩ ⟨by decide, by decide⟩ ⟨Nat.le_refl _, Nat.le_refl _⟩ rfl rfl (Nat.le_of_ble_eq_true rfl) d_N_pairs_67) (fun r7 S7 hp7 => ?_)
      obtain ⟨hS7, rfl⟩ := hp7
      refine GG.at hS7 ?_
      refine g_v (z' := wp (S0 5) ((spS S0 u v).getD i [])) (by rw [e0 5 (by decide)]) ?_
      refine g_runV (wX_fix a ki kz kl kq) rfl (rn_VN C (m_B_offer hPB5 (by omega) (by omega) (by omega) hB4) 24 2 wX_24 rfl rfl kc_B_offer k_N_129 ki_B_offer kx_B_offer kn_B hy_B_offer ⟨rfl, rfl⟩ ⟨by decide, by decide⟩ ⟨Nat.le_refl _, Nat.le_refl _⟩ rfl rfl (Nat.le_of_ble_eq_true rfl) d_N_pairs_70) (fun S8 hp8 => ?_)
      obtain ⟨l2, e_l2⟩ : ∃ z : Int, z = (((spS S0 u v).length : Int) - (i : Int)) + (-1) := ⟨_, rfl⟩
      refine g_iinc (q := 1) (z := l2) (lv' := [(3, .int (iI l2)), (4, .long (lI x5)), (0, .ref (a 0)), (1, .int (iI u)), (2, .int (iI v))]) C d_N_pairs_73 rfl e_l2.symm (by decide) rfl rfl ?_
      refine g_goto (tgt := 39) C d_N_pairs_76 (by decide) ?_
      refine GG.lvs (lv' := [(3, .int (iI (((spS S0 u v).length : Int) - ((i + 1 : Nat) : Int)))), (0, .ref (a 0)), (1, .int (iI u)), (2, .int (iI v))]) (by rw [show l2 = ((spS S0 u v).length : Int) - ((i + 1 : Nat) : Int) by omega]; simp [lk]) ?_
      have hol := of1_len (B := B) (p := prS S0 ((spS S0 u v).getD i []))
      refine ih (i + 1) _ (by omega) (by omega) ⟨eqx_tr e0 (eqx_mono hp8.1 (by simp)), ?_, _, prsS_fnt hG (by omega) hlt hB1, hp8.2, by omega, fun q hq => ?_⟩
      · obtain ⟨t1, t2, t3⟩ := htk.1
        unfold FNh BZ HPs at *
        rw [hp8.1 16 (by decide), hp8.1 17 (by decide), hp8.1 18 (by decide)]
        exact ⟨t1, t2, t3⟩
      · have hb := (((prsS_fnt hG (by omega) hlt hB1).2 q).mp hq).1
        obtain ⟨P, hP, rfl⟩ := List.mem_map.mp (List.mem_of_mem_take hb)
        have hn8 := hG.1
        have hok := sp_ok5 hG.2.2.1 (a := u) (b := v) (by omega) hP
        have g4 := wp_bd (W := S0 4) (fun k => ⟨(hG.2.2.1.2.2.1 k).2.2.2.2.1, (hG.2.2.1.2.2.1 k).2.2.2.2.2.1⟩) P
        have g5 := wp_bd (W := S0 5) (fun k => ⟨(hG.2.2.1.2.2.1 k).2.2.2.2.2.2.1, (hG.2.2.1.2.2.1 k).2.2.2.2.2.2.2.1⟩) P
        have g7 := hok.1
        show r32 (wp (S0 4) P) ∧ r32 (wp (S0 5) P)
        omega

set_option maxRecDepth 100000 in
set_option maxHeartbeats 4000000 in
theorem m_N_pairs {l : Launch} {D : va_G} {a : Nat → Nat} {ki kz kl kq : ClassId} {S : Nat → Int → Int} {u v : Int} (hG : GIs S) (hz : BZ S) (hu : r32 u) (hv : r32 v) : MX l D a ki kz kl kq y_N_pairs b_N_pairs 6 (some .int) rm_N_pairs [.ref (a 0), .int (iI u), .int (iI v)] S (pI fun r S' => (¬ twoS S u v ∧ r = -2 ∧ S' = S) ∨ (twoS S u v ∧ BZ S' ∧ eqx [16, 17, 18, 19, 20, 34, 35, 36] S S' ∧ ∃ B, fnt (prsS S u v) B ∧ PB S' B ∧ B.length ≤ 1458 ∧ r = B.length)) := by
  refine MM.go b_N_pairs 6 (some .int) "NextPaths" [(0, .ref (a 0)), (1, .int (iI u)), (2, .int (iI v))] (by decide) rfl rfl (Nat.le_of_ble_eq_true rfl) ?_
  intro p e s m args below meth c C hr hk
  refine g_aload_n C d_N_pairs_0 rfl rfl ?_
  refine g_get C 0 0 i_N wX_0 rfl (by decide) k_N_12 rfl rfl d_N_pairs_1 rfl ?_
  refine g_iload_n C d_N_pairs_4 rfl rfl ?_
  refine g_iload_n C d_N_pairs_5 rfl rfl ?_
  refine g_runI (wX_fix a ki kz kl kq) rfl (rn_VN C (m_G_areTwoNodes hu hv hG.1) 1 2 wX_1 rfl rfl kc_G_areTwoNodes k_N_68 ki_G_areTwoNodes kx_G_areTwoNodes kn_G hy_G_areTwoNodes ⟨rfl, rfl⟩ ⟨by decide, by decide⟩ ⟨Nat.le_refl _, Nat.le_refl _⟩ rfl rfl (Nat.le_of_ble_eq_true rfl) d_N_pairs_6) (fun r1 S1 hp1 => ?_)
  obtain ⟨hS1, hp1⟩ := hp1
  refine GG.at hS1 ?_
  refine g_if_ne (tgt := 15) C d_N_pairs_9 (by decide) rfl (by omega) (fun h9 => ?_) (fun h9 => ?_)
  · refine g_aload_n C d_N_pairs_15 rfl rfl ?_
    refine g_get C 0 2 i_N wX_0 rfl (by decide) k_N_28 rfl rfl d_N_pairs_16 rfl ?_
    refine g_iload_n C d_N_pairs_19 rfl rfl ?_
    refine g_iload_n C d_N_pairs_20 rfl rfl ?_
    refine g_runV (wX_fix a ki kz kl kq) rfl (rn_VN C (m_P_findAll hG hz (by omega) (by omega)) 19 2 wX_19 rfl rfl kc_P_findAll k_N_98 ki_P_findAll kx_P_findAll kn_P hy_P_findAll ⟨rfl, rfl⟩ ⟨by decide, by decide⟩ ⟨Nat.le_refl _, Nat.le_refl _⟩ rfl rfl (Nat.le_of_ble_eq_true rfl) d_N_pairs_21) (fun S3 hp3 => ?_)
    have hl58 : (spS S u v).length ≤ 1458 := sp_len hG.2.2.1 (a := u) (b := v) (by have := hG.1; omega) (by have := hG.1; omega)
    refine g_aload_n C d_N_pairs_24 rfl rfl ?_
    refine g_get C 0 5 i_N wX_0 rfl (by decide) k_N_51 rfl rfl d_N_pairs_25 rfl ?_
    refine g_runV (wX_fix a ki kz kl kq) rfl (rn_VN C (m_B_empty) 24 0 wX_24 rfl rfl kc_B_empty k_N_63 ki_B_empty kx_B_empty kn_B hy_B_empty ⟨rfl, rfl⟩ ⟨by decide, by decide⟩ ⟨Nat.le_refl _, Nat.le_refl _⟩ rfl rfl (Nat.le_of_ble_eq_true rfl) d_N_pairs_28) (fun S4 hp4 => ?_)
    subst hp4
    refine g_aload_n C d_N_pairs_31 rfl rfl ?_
    refine g_get C 0 1 i_N wX_0 rfl (by decide) k_N_19 rfl rfl d_N_pairs_32 rfl ?_
    refine g_getN C 17 1 i_H wX_17 rfl (by decide) k_N_102 rfl rfl d_N_pairs_35 rfl ?_
    refine g_v (z' := ((spS S u v).length : Int)) (by rw [us_n (by decide)]; exact hp3.2.2.1.1) ?_
    refine g_nm (fun l0 e_l0 => ?_)
    refine g_istore_n (lv' := [(3, .int (iI l0)), (0, .ref (a 0)), (1, .int (iI u)), (2, .int (iI v))]) C d_N_pairs_38 (by decide) rfl rfl ?_
    refine GG.lvs (lv' := [(3, .int (iI (((spS S u v).length : Int) - ((0 : Nat) : Int)))), (0, .ref (a 0)), (1, .int (iI u)), (2, .int (iI v))]) (by rw [show l0 = ((spS S u v).length : Int) - ((0 : Nat) : Int) by omega]; simp [lk]) ?_
    refine lo_N_pairs hG (by omega) hl58 C hr hk _ 0 _ (by omega) (Nat.le_add_left _ _) ⟨eqx_us (eqx_mono hp3.1 (by simp)) (by simp), ?_, [], fnt_nil, PB_nil, by simp, fun q hq => by cases hq⟩
    obtain ⟨-, t1, t2, t3⟩ := hp3
    unfold FNh BZ HPs at *
    rw [us_n (by decide), us_n (by decide), us_n (by decide)]
    exact ⟨t1, t2, t3⟩
  · refine g_bipush (z := (-2)) C d_N_pairs_12 rfl (by decide) ?_
    refine g_iret C hr hk d_N_pairs_14 ⟨_, rfl, ?_⟩
    exact Or.inl ⟨by omega, rfl, rfl⟩

