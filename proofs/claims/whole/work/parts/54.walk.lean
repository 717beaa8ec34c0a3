/-! the class: the search for paths -/
def lo_ (n : Nat) (F : Int → Int) (v : Int) : List Int := (dk n).filter (fun k => decide (F k = v))
theorem lo_mem {n : Nat} {F : Int → Int} {v k : Int} : k ∈ lo_ n F v ↔ (0 ≤ k ∧ k < n) ∧ F k = v := by
  simp only [lo_, List.mem_filter, dk_mem, decide_eq_true_eq]
theorem lo_len {n : Nat} {F : Int → Int} {v : Int} : (lo_ n F v).length ≤ n := by
  have := List.length_filter_le (fun k => decide (F k = v)) (dk n)
  rw [dk_len] at this
  exact this
theorem lo_flat {F T Sh : Int → Int} {u : Int} {seen : List Int} {rest : Int → List (List Int)} (n : Nat) : (dk n).flatMap (db F T Sh u seen rest) = (lo_ n F u).flatMap (db F T Sh u seen rest) := by
  unfold lo_
  induction dk n with
  | nil => rfl
  | cons k l ih =>
    by_cases c : F k = u
    · rw [List.filter_cons_of_pos (by simp [c]), List.flatMap_cons, List.flatMap_cons, ih]
    · rw [List.filter_cons_of_neg (by simp [c]), List.flatMap_cons, ih]
      have : db F T Sh u seen rest k = [] := by unfold db; rw [if_neg (fun q => c q.1)]
      rw [this, List.nil_append]
def LVs (S : Nat → Int → Int) : Prop := ∀ v : Int, 0 ≤ v → v < 8 → S 7 v = (lo_ (S 1 0).toNat (S 2) v).length ∧ ∀ i : Nat, i < (lo_ (S 1 0).toNat (S 2) v).length → S (8 + v.toNat) (i : Int) = (lo_ (S 1 0).toNat (S 2) v).getD i 0
/-- what the graph's numbers are, always -/
def GIs (S : Nat → Int → Int) : Prop := (0 ≤ S 0 0 ∧ S 0 0 ≤ 8) ∧ (0 ≤ S 1 0 ∧ S 1 0 ≤ 20) ∧ gok (S 1 0).toNat (S 0 0).toNat (S 2) (S 3) (S 4) (S 5) (S 6) ∧ LVs S
theorem GIs_eq {S S' : Nat → Int → Int} (h : ∀ k, k < 16 → S' k = S k) (g : GIs S) : GIs S' := by
  unfold GIs LVs at *
  rw [h 0 (by decide), h 1 (by decide), h 2 (by decide), h 3 (by decide), h 4 (by decide), h 5 (by decide), h 6 (by decide), h 7 (by decide)]
  refine ⟨g.1, g.2.1, g.2.2.1, fun v v0 v1 => ?_⟩
  rw [h (8 + v.toNat) (by omega)]
  exact g.2.2.2 v v0 v1
abbrev dfS (S : Nat → Int → Int) (b : Int) (d : Nat) (u : Int) (seen : List Int) : List (List Int) := df (S 1 0).toNat (S 2) (S 3) (S 6) b d u seen
abbrev dbS (S : Nat → Int → Int) (b : Int) (d : Nat) (u : Int) (seen : List Int) : Int → List (List Int) := db (S 2) (S 3) (S 6) u seen (fun v => dfS S b d v (u :: seen))
def cds (S : Nat → Int → Int) (px : List Int) (L : List (List Int)) : List Int := L.map (fun P => cd (S 4) (px ++ P))
theorem cds_len {S : Nat → Int → Int} {px : List Int} {L : List (List Int)} : (cds S px L).length = L.length := by simp [cds]
/-- n numbers stand in the heap -/
def HPs (S : Nat → Int → Int) (n : Nat) : Prop := S 17 0 = n ∧ hp (S 16) n ∧ ∀ i : Int, 0 ≤ i → i < n → r62 (S 16 i)
def wkp (S0 S : Nat → Int → Int) (n : Nat) (dp : Int) (L : List Int) : Prop := eqx [16, 17, 18, 19] S0 S ∧ (∀ v : Int, 0 ≤ v → v < 8 → S 18 v = S0 18 v) ∧ (∀ i : Int, 0 ≤ i → i < dp → S 19 i = S0 19 i) ∧ HPs S (n + L.length) ∧ ∀ v, ct (S 16) v (n + L.length) = ct (S0 16) v n + (L.count v : Nat)
def wkq (S : Nat → Int → Int) (b u : Int) (seen px : List Int) (n d : Nat) : Prop := GIs S ∧ S 20 0 = b ∧ (0 ≤ b ∧ b < 8) ∧ (0 ≤ u ∧ u < 8) ∧ u ∉ seen ∧ (∀ v : Int, 0 ≤ v → v < 8 → S 18 v = if v ∈ seen then 1 else 0) ∧ px.length + d = 7 ∧ (∀ i : Nat, i < px.length → S 19 (i : Int) = px.getD i 0) ∧ (∀ k, k ∈ px → 0 ≤ k ∧ k < 20) ∧ HPs S n ∧ n + (dfS S b d u seen).length ≤ 1458
/-- the goal is come to -/
theorem wkp_goal {S S' : Nat → Int → Int} {px : List Int} {n : Nat} (h : hadd S S' (cd (S 4) px) n) : wkp S S' n px.length (cds S px [[]]) := by
  obtain ⟨h1, h2, h3, h4, h5⟩ := h
  refine ⟨eqx_mono h1 (by simp), fun v _ _ => by rw [h1 18 (by decide)], fun i _ _ => by rw [h1 19 (by decide)], ⟨?_, ?_, ?_⟩, fun v => ?_⟩
  · simp [cds]; omega
  · simpa [cds] using h3
  · simpa [cds] using h5
  · have := h4 v
    simp only [cds, List.map_cons, List.map_nil, List.append_nil, List.length_singleton, List.count_cons, List.count_nil, beq_iff_eq]
    rw [this]
    split <;> simp
theorem wkp_none {S : Nat → Int → Int} {n : Nat} {dp : Int} (h : HPs S n) : wkp S S n dp [] := ⟨eqx_rf, fun _ _ _ => rfl, fun _ _ _ => rfl, by simpa using h, fun v => by simp⟩
/-- in the loop over the arcs that leave u, before the arc at place i -/
def wkl (S0 S : Nat → Int → Int) (b u : Int) (seen px : List Int) (n d i : Nat) : Prop := eqx [16, 17, 18, 19] S0 S ∧ (∀ v : Int, 0 ≤ v → v < 8 → S 18 v = if v ∈ u :: seen then 1 else 0) ∧ (∀ i : Int, 0 ≤ i → i < px.length → S 19 i = S0 19 i) ∧
  HPs S (n + (cds S0 px (((lo_ (S0 1 0).toNat (S0 2) u).take i).flatMap (dbS S0 b d u seen))).length) ∧ ∀ v, ct (S 16) v (n + (cds S0 px (((lo_ (S0 1 0).toNat (S0 2) u).take i).flatMap (dbS S0 b d u seen))).length) = ct (S0 16) v n + ((cds S0 px (((lo_ (S0 1 0).toNat (S0 2) u).take i).flatMap (dbS S0 b d u seen))).count v : Nat)
theorem take_s2 {P : List Int} {i : Nat} {k : Int} (h : i < P.length) (hk : P.getD i 0 = k) : P.take (i + 1) = P.take i ++ [k] := by rw [take_s h, hk]
theorem wkl_skip {S0 S : Nat → Int → Int} {b u : Int} {seen px : List Int} {n d i : Nat} (h : wkl S0 S b u seen px n d i) (hi : i < (lo_ (S0 1 0).toNat (S0 2) u).length) (hb : dbS S0 b d u seen ((lo_ (S0 1 0).toNat (S0 2) u).getD i 0) = []) : wkl S0 S b u seen px n d (i + 1) := by
  have e : ((lo_ (S0 1 0).toNat (S0 2) u).take (i + 1)).flatMap (dbS S0 b d u seen) = ((lo_ (S0 1 0).toNat (S0 2) u).take i).flatMap (dbS S0 b d u seen) := by
    rw [take_s hi, List.flatMap_append, List.flatMap_cons, hb]
    simp
  unfold wkl
  rw [e]
  exact h
theorem wkl_call {S0 S S1 S2 : Nat → Int → Int} {b u k : Int} {seen px : List Int} {n d i : Nat} (h : wkl S0 S b u seen px n d i) (hi : i < (lo_ (S0 1 0).toNat (S0 2) u).length) (hk : (lo_ (S0 1 0).toNat (S0 2) u).getD i 0 = k) (hF : S0 2 k = u) (hS : S0 6 k = 0) (hT : S0 3 k ∉ u :: seen) (h1 : S1 = us S 19 px.length k)
    (h2 : wkp S1 S2 (n + (cds S0 px (((lo_ (S0 1 0).toNat (S0 2) u).take i).flatMap (dbS S0 b d u seen))).length) (px ++ [k]).length (cds S1 (px ++ [k]) (dfS S1 b d (S0 3 k) (u :: seen)))) : wkl S0 S2 b u seen px n d (i + 1) := by
  obtain ⟨a1, a2, a3, a4, a5⟩ := h
  obtain ⟨b1, b2, b3, b4, b5⟩ := h2
  have g : ∀ j, j < 16 → S1 j = S0 j := fun j hj => by rw [h1, us_n (by omega), a1 j (by simp; omega)]
  have e0 : cds S1 (px ++ [k]) (dfS S1 b d (S0 3 k) (u :: seen)) = cds S0 px (dbS S0 b d u seen k) := by
    have : dbS S0 b d u seen k = (dfS S0 b d (S0 3 k) (u :: seen)).map (fun P => k :: P) := by
      show db _ _ _ _ _ _ _ = _
      unfold db
      rw [if_pos ⟨hF, hS, hT⟩]
    rw [this]
    unfold cds dfS
    rw [g 1 (by decide), g 2 (by decide), g 3 (by decide), g 4 (by decide), g 6 (by decide), List.map_map]
    apply List.map_congr_left
    intro P _
    simp
  have e1 : cds S0 px (((lo_ (S0 1 0).toNat (S0 2) u).take (i + 1)).flatMap (dbS S0 b d u seen)) = cds S0 px (((lo_ (S0 1 0).toNat (S0 2) u).take i).flatMap (dbS S0 b d u seen)) ++ cds S0 px (dbS S0 b d u seen k) := by
    rw [take_s2 hi hk, List.flatMap_append]
    simp [cds]
  rw [e0] at b4 b5
  have e2 : S1 16 = S 16 := by rw [h1, us_n (by decide)]
  refine ⟨fun j hj => ?_, fun v v0 v1 => ?_, fun j j0 j1 => ?_, ?_, fun v => ?_⟩
  · rw [b1 j hj, h1, us_n (by intro e; subst e; simp at hj), a1 j hj]
  · rw [b2 v v0 v1, h1, us_n (by decide)]; exact a2 v v0 v1
  · rw [b3 j j0 (by simp; omega), h1, us_s, up_n (by omega)]; exact a3 j j0 j1
  · rw [e1, List.length_append, ← Nat.add_assoc]; exact b4
  · rw [e1, List.length_append, ← Nat.add_assoc, b5 v, e2, a5 v, List.count_append]
    omega
theorem wkl_end {S0 S : Nat → Int → Int} {b u : Int} {seen px : List Int} {n d : Nat} (hub : u ≠ b) (hs : u ∉ seen) (hu : 0 ≤ u ∧ u < 8) (h18 : ∀ v : Int, 0 ≤ v → v < 8 → S0 18 v = if v ∈ seen then 1 else 0) (h : wkl S0 S b u seen px n d (lo_ (S0 1 0).toNat (S0 2) u).length) : wkp S0 (us S 18 u 0) n px.length (cds S0 px (dfS S0 b (d + 1) u seen)) := by
  obtain ⟨a1, a2, a3, a4, a5⟩ := h
  have e : dfS S0 b (d + 1) u seen = ((lo_ (S0 1 0).toNat (S0 2) u).take (lo_ (S0 1 0).toNat (S0 2) u).length).flatMap (dbS S0 b d u seen) := by
    rw [List.take_length]
    show df _ _ _ _ _ _ _ _ = _
    rw [df_s hub, lo_flat]
  rw [e]
  refine ⟨eqx_us a1 (by simp), fun v v0 v1 => ?_, fun j j0 j1 => by rw [us_n (by decide)]; exact a3 j j0 j1, ?_, fun v => by rw [us_n (by decide)]; exact a5 v⟩
  · rw [us_s, h18 v v0 v1]
    by_cases c : v = u
    · subst c; rw [up_s, if_neg hs]
    · rw [up_n c, a2 v v0 v1]
      simp [c]
  · unfold HPs at *
    rw [us_n (by decide), us_n (by decide)]
    exact a4

set_option maxRecDepth 100000 in
set_option maxHeartbeats 4000000 in
theorem lo_P_walkOn {l : Launch} {D : va_G} {a : Nat → Nat} {ki kz kl kq : ClassId} {p : Program} {e : Env} {s : State} {m : MethodId} {args : Array Value} {below : List Frame} {meth : Method} {c : Code} {S0 : Nat → Int → Int} {b u : Int} {seen px : List Int} {n d : Nat} (hG : GIs S0) (hb0 : S0 20 0 = b) (hb8 : 0 ≤ b ∧ b < 8) (hu : 0 ≤ u ∧ u < 8) (hs0 : u ∉ seen) (h18 : ∀ v : Int, 0 ≤ v → v < 8 → S0 18 v = if v ∈ seen then 1 else 0) (hpl : px.length + (d + 1) = 7) (hch : ∀ i : Nat, i < px.length → S0 19 (i : Int) = px.getD i 0) (hpx : ∀ k, k ∈ px → 0 ≤ k ∧ k < 20) (hcap : n + (dfS S0 b (d + 1) u seen).length ≤ 1458) (hub : u ≠ b) (hrec : ∀ (S : Nat → Int → Int) (u : Int) (seen px : List Int) (n : Nat), wkq S b u seen px n d → MX l D a ki kz kl kq y_P_walkOn b_P_walkOn 6 none (rm_P_walkOn d) [.ref (a 19), .int (iI u), .int (iI (px.length : Int))] S (pV fun S' => wkp S S' n px.length (cds S px (dfS S b d u seen)))) (C : CX p s m args c b_P_walkOn 6 "NextPaths$PathFinder" TT D cls (tyz ki kz kl kq)) (hr : meth.sig.returnType = none) (hk : meth.locks = false) : ∀ (k i : Nat) (S : Nat → Int → Int), i ≤ (lo_ (S0 1 0).toNat (S0 2) u).length → (lo_ (S0 1 0).toNat (S0 2) u).length ≤ i + k → wkl S0 S b u seen px n d i → GG p l e (rm_P_walkOn (d + 1)) s m args below meth c D cls (adr (wX a ki kz kl kq S0)) 6 0 0 (MQ below (QcW D cls (wX a ki kz kl kq) S0 (pV fun S' => wkp S0 S' n px.length (cds S0 px (dfS S0 b (d + 1) u seen)))) args s 0 0 (adr (wX a ki kz kl kq S0))) (wX a ki kz kl kq) S [(3, .int (iI (i : Int))), (0, .ref (a 19)), (1, .int (iI u)), (2, .int (iI (px.length : Int)))] 37 [] := by
  intro k
  induction k with
  | zero =>
    intro i S hi hk0 hI
    have hL := hG.2.2.2 u (by omega) (by omega)
    have hS7 : S 7 u = (lo_ (S0 1 0).toNat (S0 2) u).length := by rw [hI.1 7 (by decide)]; exact hL.1
    have hll := lo_len (n := (S0 1 0).toNat) (F := S0 2) (v := u)
    have hG1 := hG.2.1
    refine g_iload_n C d_P_walkOn_37 rfl rfl ?_
    refine g_aload_n C d_P_walkOn_38 rfl rfl ?_
    refine g_get C 19 0 i_P wX_19 rfl (by decide) k_P_19 rfl rfl d_P_walkOn_39 rfl ?_
    refine g_getN C 1 8 i_G wX_1 rfl (by decide) k_P_48 rfl rfl d_P_walkOn_42 rfl ?_
    refine g_iload_n C d_P_walkOn_45 rfl rfl ?_
    refine g_iald C 16 0 wX_16 rfl (by omega) (by omega) (by decide) d_P_walkOn_46 rfl ?_
    refine g_v (z' := ((lo_ (S0 1 0).toNat (S0 2) u).length : Int)) hS7 ?_
    refine g_icmp_ge (tgt := 121) C d_P_walkOn_47 (by decide) rfl (by omega) (by omega) (fun h47 => ?_) (fun h47 => ?_)
    · refine g_aload_n C d_P_walkOn_121 rfl rfl ?_
      refine g_get C 19 2 i_P wX_19 rfl (by decide) k_P_9 rfl rfl d_P_walkOn_122 rfl ?_
      refine g_iload_n C d_P_walkOn_125 rfl rfl ?_
      refine g_iconst (z := 0) C d_P_walkOn_126 rfl rfl ?_
      refine g_zast C 20 1 wX_20 rfl (by omega) (by omega) (by decide) (by omega) wX_s20 d_P_walkOn_127 rfl ?_
      refine g_vret C hr hk d_P_walkOn_128 ⟨rfl, ?_⟩
      have hi : i = (lo_ (S0 1 0).toNat (S0 2) u).length := by omega
      subst hi
      exact wkl_end hub hs0 hu h18 hI
    · exact absurd h47 (by omega)
  | succ k ih =>
    intro i S hi hk0 hI
    have hL := hG.2.2.2 u (by omega) (by omega)
    have hS7 : S 7 u = (lo_ (S0 1 0).toNat (S0 2) u).length := by rw [hI.1 7 (by decide)]; exact hL.1
    have hll := lo_len (n := (S0 1 0).toNat) (F := S0 2) (v := u)
    have hG1 := hG.2.1
    refine g_iload_n C d_P_walkOn_37 rfl rfl ?_
    refine g_aload_n C d_P_walkOn_38 rfl rfl ?_
    refine g_get C 19 0 i_P wX_19 rfl (by decide) k_P_19 rfl rfl d_P_walkOn_39 rfl ?_
    refine g_getN C 1 8 i_G wX_1 rfl (by decide) k_P_48 rfl rfl d_P_walkOn_42 rfl ?_
    refine g_iload_n C d_P_walkOn_45 rfl rfl ?_
    refine g_iald C 16 0 wX_16 rfl (by omega) (by omega) (by decide) d_P_walkOn_46 rfl ?_
    refine g_v (z' := ((lo_ (S0 1 0).toNat (S0 2) u).length : Int)) hS7 ?_
    refine g_icmp_ge (tgt := 121) C d_P_walkOn_47 (by decide) rfl (by omega) (by omega) (fun h47 => ?_) (fun h47 => ?_)
    · refine g_aload_n C d_P_walkOn_121 rfl rfl ?_
      refine g_get C 19 2 i_P wX_19 rfl (by decide) k_P_9 rfl rfl d_P_walkOn_122 rfl ?_
      refine g_iload_n C d_P_walkOn_125 rfl rfl ?_
      refine g_iconst (z := 0) C d_P_walkOn_126 rfl rfl ?_
      refine g_zast C 20 1 wX_20 rfl (by omega) (by omega) (by decide) (by omega) wX_s20 d_P_walkOn_127 rfl ?_
      refine g_vret C hr hk d_P_walkOn_128 ⟨rfl, ?_⟩
      have hi : i = (lo_ (S0 1 0).toNat (S0 2) u).length := by omega
      subst hi
      exact wkl_end hub hs0 hu h18 hI
    · have hlt : i < (lo_ (S0 1 0).toNat (S0 2) u).length := by omega
      have hrow : S (8 + u.toNat) (i : Int) = (lo_ (S0 1 0).toNat (S0 2) u).getD i 0 := by
        rw [hI.1 (8 + u.toNat) (by simp; omega)]; exact hL.2 i hlt
      refine g_aload_n C d_P_walkOn_50 rfl rfl ?_
      refine g_get C 19 0 i_P wX_19 rfl (by decide) k_P_19 rfl rfl d_P_walkOn_51 rfl ?_
      refine g_getN C 1 7 i_G wX_1 rfl (by decide) k_P_53 rfl rfl d_P_walkOn_54 rfl ?_
      refine g_iload_n C d_P_walkOn_57 rfl rfl ?_
      refine g_aald (z := u) C 7 3 wX_7 rfl (by omega) (by omega) (by decide) (if_pos (by omega)) d_P_walkOn_58 rfl ?_
      refine g_iload_n C d_P_walkOn_59 rfl rfl ?_
      refine g_iald C (8 + u.toNat) 0 (wX_row (by omega)) rfl (by omega) (by omega) (by decide) d_P_walkOn_60 rfl ?_
      refine g_v (z' := ((lo_ (S0 1 0).toNat (S0 2) u).getD i 0)) hrow ?_
      refine g_nm (fun k1 e_k1 => ?_)
      refine g_istore (lv' := [(4, .int (iI k1)), (3, .int (iI (i : Int))), (0, .ref (a 19)), (1, .int (iI u)), (2, .int (iI (px.length : Int)))]) C d_P_walkOn_61 (by decide) rfl rfl ?_
      have hk1 : (lo_ (S0 1 0).toNat (S0 2) u).getD i 0 = k1 := e_k1.symm
      have hkm := lo_mem.mp (show k1 ∈ lo_ (S0 1 0).toNat (S0 2) u by rw [← hk1]; simp [hlt])
      have hok := hG.2.2.1.2.2.1 k1
      refine g_aload_n C d_P_walkOn_63 rfl rfl ?_
      refine g_get C 19 0 i_P wX_19 rfl (by decide) k_P_19 rfl rfl d_P_walkOn_64 rfl ?_
      refine g_getN C 1 3 i_G wX_1 rfl (by decide) k_P_57 rfl rfl d_P_walkOn_67 rfl ?_
      refine g_iload C d_P_walkOn_70 rfl rfl ?_
      refine g_iald C 3 0 wX_3 rfl (by omega) (by omega) (by decide) d_P_walkOn_72 rfl ?_
      refine g_v (z' := (S0 3 k1)) (by rw [hI.1 3 (by decide)]) ?_
      refine g_nm (fun t1 e_t1 => ?_)
      refine g_istore (lv' := [(5, .int (iI t1)), (4, .int (iI k1)), (3, .int (iI (i : Int))), (0, .ref (a 19)), (1, .int (iI u)), (2, .int (iI (px.length : Int)))]) C d_P_walkOn_73 (by decide) rfl rfl ?_
      refine g_aload_n C d_P_walkOn_75 rfl rfl ?_
      refine g_get C 19 0 i_P wX_19 rfl (by decide) k_P_19 rfl rfl d_P_walkOn_76 rfl ?_
      refine g_getN C 1 6 i_G wX_1 rfl (by decide) k_P_60 rfl rfl d_P_walkOn_79 rfl ?_
      refine g_iload C d_P_walkOn_82 rfl rfl ?_
      refine g_zald C 6 1 wX_6 rfl (by omega) (by omega) (by decide) d_P_walkOn_84 rfl ?_
      refine g_v (z' := (S0 6 k1)) (by rw [hI.1 6 (by decide)]) ?_
      refine g_if_ne (tgt := 115) C d_P_walkOn_85 (by decide) rfl (by omega) (fun h85 => ?_) (fun h85 => ?_)
      · obtain ⟨i2, e_i2⟩ : ∃ z : Int, z = (i : Int) + 1 := ⟨_, rfl⟩
        refine g_iinc (q := 2) (z := i2) (lv' := [(3, .int (iI i2)), (5, .int (iI t1)), (4, .int (iI k1)), (0, .ref (a 19)), (1, .int (iI u)), (2, .int (iI (px.length : Int)))]) C d_P_walkOn_115 rfl e_i2.symm (by decide) rfl rfl ?_
        refine g_goto (tgt := 37) C d_P_walkOn_118 (by decide) ?_
        refine GG.lvs (lv' := [(3, .int (iI ((i + 1 : Nat) : Int))), (0, .ref (a 19)), (1, .int (iI u)), (2, .int (iI (px.length : Int)))]) (by rw [show i2 = ((i + 1 : Nat) : Int) by omega]; simp [lk]) ?_
        first
          | exact ih (i + 1) _ (by omega) (by omega) (wkl_call hI hlt hk1 hkm.2 h85 hnT rfl (e_t1 ▸ hp))
          | exact ih (i + 1) _ (by omega) (by omega) (wkl_skip hI hlt (by rw [hk1]; show db _ _ _ _ _ _ _ = _; unfold db; rw [if_neg (fun q => h85 q.2.1)]))
          | exact ih (i + 1) _ (by omega) (by omega) (wkl_skip hI hlt (by
              rw [hk1]; show db _ _ _ _ _ _ _ = _; unfold db
              rw [if_neg (fun q => by
                have h9 := hI.2.1 t1 (by omega) (by omega)
                rw [if_neg (by rw [e_t1]; exact q.2.2)] at h9
                exact h95 h9)]))
      · refine g_aload_n C d_P_walkOn_88 rfl rfl ?_
        refine g_get C 19 2 i_P wX_19 rfl (by decide) k_P_9 rfl rfl d_P_walkOn_89 rfl ?_
        refine g_iload C d_P_walkOn_92 rfl rfl ?_
        refine g_zald C 20 1 wX_20 rfl (by omega) (by omega) (by decide) d_P_walkOn_94 rfl ?_
        refine g_if_ne (tgt := 115) C d_P_walkOn_95 (by decide) rfl (by have h9 := hI.2.1 t1 (by omega) (by omega); split at h9 <;> omega) (fun h95 => ?_) (fun h95 => ?_)
        · obtain ⟨i2, e_i2⟩ : ∃ z : Int, z = (i : Int) + 1 := ⟨_, rfl⟩
          refine g_iinc (q := 2) (z := i2) (lv' := [(3, .int (iI i2)), (5, .int (iI t1)), (4, .int (iI k1)), (0, .ref (a 19)), (1, .int (iI u)), (2, .int (iI (px.length : Int)))]) C d_P_walkOn_115 rfl e_i2.symm (by decide) rfl rfl ?_
          refine g_goto (tgt := 37) C d_P_walkOn_118 (by decide) ?_
          refine GG.lvs (lv' := [(3, .int (iI ((i + 1 : Nat) : Int))), (0, .ref (a 19)), (1, .int (iI u)), (2, .int (iI (px.length : Int)))]) (by rw [show i2 = ((i + 1 : Nat) : Int) by omega]; simp [lk]) ?_
          first
            | exact ih (i + 1) _ (by omega) (by omega) (wkl_call hI hlt hk1 hkm.2 h85 hnT rfl (e_t1 ▸ hp))
            | exact ih (i + 1) _ (by omega) (by omega) (wkl_skip hI hlt (by rw [hk1]; show db _ _ _ _ _ _ _ = _; unfold db; rw [if_neg (fun q => h85 q.2.1)]))
            | exact ih (i + 1) _ (by omega) (by omega) (wkl_skip hI hlt (by
                rw [hk1]; show db _ _ _ _ _ _ _ = _; unfold db
                rw [if_neg (fun q => by
                  have h9 := hI.2.1 t1 (by omega) (by omega)
                  rw [if_neg (by rw [e_t1]; exact q.2.2)] at h9
                  exact h95 h9)]))
        · have hnT : S0 3 k1 ∉ u :: seen := fun q => by
            have h9 := hI.2.1 t1 (by omega) (by omega)
            rw [if_pos (by rw [e_t1]; exact q)] at h9
            omega
          refine g_aload_n C d_P_walkOn_98 rfl rfl ?_
          refine g_get C 19 3 i_P wX_19 rfl (by decide) k_P_15 rfl rfl d_P_walkOn_99 rfl ?_
          refine g_iload_n C d_P_walkOn_102 rfl rfl ?_
          refine g_iload C d_P_walkOn_103 rfl rfl ?_
          refine g_iast C 21 0 wX_21 rfl (by omega) (by omega) (by decide) wX_s21 d_P_walkOn_105 rfl ?_
          have hq : wkq (us S 19 px.length k1) b t1 (u :: seen) (px ++ [k1]) (n + (cds S0 px (((lo_ (S0 1 0).toNat (S0 2) u).take i).flatMap (dbS S0 b d u seen))).length) d := by
            refine ⟨GIs_eq (fun j hj => by rw [us_n (by omega), hI.1 j (by simp; omega)]) hG, by rw [us_n (by decide), hI.1 20 (by decide)]; exact hb0, hb8, by omega, by rw [e_t1]; exact hnT, fun v v0 v1 => by rw [us_n (by decide)]; exact hI.2.1 v v0 v1, by simp; omega, fun j hj => ?_, fun k hk => ?_, ?_, ?_⟩
            · rw [us_s]
              by_cases e : j = px.length
              · subst e; rw [up_s]; simp
              · have hj2 : j < px.length := by simp at hj; omega
                rw [up_n (by omega), hI.2.2.1 j (by omega) (by omega), hch j hj2]
                simp [List.getElem?_append_left hj2, hj2]
            · rcases List.mem_append.mp hk with hk | hk
              · exact hpx k hk
              · have : k = k1 := by simpa using hk
                omega
            · have := hI.2.2.2.1
              unfold HPs at *
              rw [us_n (by decide), us_n (by decide)]
              exact this
            · have g : ∀ j, j < 16 → us S 19 px.length k1 j = S0 j := fun j hj => by rw [us_n (by omega), hI.1 j (by simp; omega)]
              have e0 : dfS (us S 19 px.length k1) b d t1 (u :: seen) = dfS S0 b d (S0 3 k1) (u :: seen) := by
                unfold dfS
                rw [g 1 (by decide), g 2 (by decide), g 3 (by decide), g 6 (by decide), e_t1]
              have e1 : (dbS S0 b d u seen k1).length = (dfS S0 b d (S0 3 k1) (u :: seen)).length := by
                show (db _ _ _ _ _ _ _).length = _
                unfold db
                rw [if_pos ⟨hkm.2, h85, hnT⟩, List.length_map]
              have e2 : dfS S0 b (d + 1) u seen = ((lo_ (S0 1 0).toNat (S0 2) u).take (i + 1)).flatMap (dbS S0 b d u seen) ++ ((lo_ (S0 1 0).toNat (S0 2) u).drop (i + 1)).flatMap (dbS S0 b d u seen) := by
                rw [← List.flatMap_append, List.take_append_drop]
                show df _ _ _ _ _ _ _ _ = _
                rw [df_s hub, lo_flat]
              have e3 := congrArg List.length e2
              rw [take_s2 hlt hk1, List.flatMap_append] at e3
              simp only [List.length_append, List.flatMap_cons, List.flatMap_nil, List.append_nil] at e3
              rw [e0, ← e1, cds_len]
              omega
          refine g_aload_n C d_P_walkOn_106 rfl rfl ?_
          refine g_iload C d_P_walkOn_107 rfl rfl ?_
          refine g_iload_n C d_P_walkOn_109 rfl rfl ?_
          refine g_iconst (z := 1) C d_P_walkOn_110 rfl rfl ?_
          refine g_iadd (z := (((px ++ [k1]).length : Nat) : Int)) C d_P_walkOn_111 (by simp) rfl ?_
          refine g_runV (wX_fix a ki kz kl kq) rfl (rn_S C (hrec (us S 19 px.length k1) t1 (u :: seen) (px ++ [k1]) _ hq) 3 kc_P_walkOn k_P_36 ks_P_walkOn kn_P hy_P_walkOn ⟨rfl, rfl⟩ ⟨by show 3 + d + 1 ≤ 3 + (d + 1); omega, by show 8 + (6 + 11) + (66 + 25 * d) ≤ 66 + 25 * (d + 1); omega⟩ ⟨Nat.le_refl _, Nat.le_refl _⟩ rfl rfl (Nat.le_of_ble_eq_true rfl) d_P_walkOn_112) (fun S2 hp => ?_)
          obtain ⟨i2, e_i2⟩ : ∃ z : Int, z = (i : Int) + 1 := ⟨_, rfl⟩
          refine g_iinc (q := 2) (z := i2) (lv' := [(3, .int (iI i2)), (5, .int (iI t1)), (4, .int (iI k1)), (0, .ref (a 19)), (1, .int (iI u)), (2, .int (iI (px.length : Int)))]) C d_P_walkOn_115 rfl e_i2.symm (by decide) rfl rfl ?_
          refine g_goto (tgt := 37) C d_P_walkOn_118 (by decide) ?_
          refine GG.lvs (lv' := [(3, .int (iI ((i + 1 : Nat) : Int))), (0, .ref (a 19)), (1, .int (iI u)), (2, .int (iI (px.length : Int)))]) (by rw [show i2 = ((i + 1 : Nat) : Int) by omega]; simp [lk]) ?_
          first
            | exact ih (i + 1) _ (by omega) (by omega) (wkl_call hI hlt hk1 hkm.2 h85 hnT rfl (e_t1 ▸ hp))
            | exact ih (i + 1) _ (by omega) (by omega) (wkl_skip hI hlt (by rw [hk1]; show db _ _ _ _ _ _ _ = _; unfold db; rw [if_neg (fun q => h85 q.2.1)]))
            | exact ih (i + 1) _ (by omega) (by omega) (wkl_skip hI hlt (by
                rw [hk1]; show db _ _ _ _ _ _ _ = _; unfold db
                rw [if_neg (fun q => by
                  have h9 := hI.2.1 t1 (by omega) (by omega)
                  rw [if_neg (by rw [e_t1]; exact q.2.2)] at h9
                  exact h95 h9)]))

set_option maxRecDepth 100000 in
set_option maxHeartbeats 4000000 in
theorem m_P_walkOn {l : Launch} {D : va_G} {a : Nat → Nat} {ki kz kl kq : ClassId} {b : Int} : ∀ (d : Nat) (S : Nat → Int → Int) (u : Int) (seen px : List Int) (n : Nat), wkq S b u seen px n d → MX l D a ki kz kl kq y_P_walkOn b_P_walkOn 6 none (rm_P_walkOn d) [.ref (a 19), .int (iI u), .int (iI (px.length : Int))] S (pV fun S' => wkp S S' n px.length (cds S px (dfS S b d u seen))) := by
  intro d
  induction d with
  | zero =>
    intro S u seen px n hw
    obtain ⟨g1, g2, g3, g4, g5, g6, g7, g8, g9, g10, g11⟩ := hw
    refine MM.go b_P_walkOn 6 none "NextPaths$PathFinder" [(0, .ref (a 19)), (1, .int (iI u)), (2, .int (iI (px.length : Int)))] (by decide) rfl rfl (Nat.le_of_ble_eq_true rfl) ?_
    intro p e s m args below meth c C hr hk
    refine g_iload_n C d_P_walkOn_0 rfl rfl ?_
    refine g_aload_n C d_P_walkOn_1 rfl rfl ?_
    refine g_get C 19 4 i_P wX_19 rfl (by decide) k_P_32 rfl rfl d_P_walkOn_2 rfl ?_
    refine g_icmp_ne (tgt := 21) C d_P_walkOn_5 (by decide) rfl (by omega) (by omega) (fun h5 => ?_) (fun h5 => ?_)
    · refine g_iload_n C d_P_walkOn_21 rfl rfl ?_
      refine g_bipush (z := 7) C d_P_walkOn_22 rfl (by decide) ?_
      refine g_icmp_lt (tgt := 28) C d_P_walkOn_24 (by decide) rfl (by omega) (by omega) (fun h24 => ?_) (fun h24 => ?_)
      · exact absurd h24 (by omega)
      · refine g_vret C hr hk d_P_walkOn_27 ⟨rfl, ?_⟩
        have e : dfS S b 0 u seen = [] := by
          show df _ _ _ _ _ _ _ _ = _
          simp only [df]
          rw [if_neg (by omega)]
        rw [e]
        exact wkp_none g10
    · have hub : u = b := by omega
      subst hub
      have hok5 : ok5 px := ⟨by omega, fun k hk => by have := g9 k hk; omega⟩
      have hW : ∀ k, 0 ≤ S 4 k ∧ S 4 k ≤ 1000 := fun k => ⟨(g1.2.2.1.2.2.1 k).2.2.2.2.1, (g1.2.2.1.2.2.1 k).2.2.2.2.2.1⟩
      have hcap : n < 1458 := by rw [show dfS S u _ u seen = [[]] from df_b _ _] at g11; simp at g11; omega
      refine g_aload_n C d_P_walkOn_8 rfl rfl ?_
      refine g_get C 19 1 i_P wX_19 rfl (by decide) k_P_23 rfl rfl d_P_walkOn_9 rfl ?_
      refine g_aload_n C d_P_walkOn_12 rfl rfl ?_
      refine g_iload_n C d_P_walkOn_13 rfl rfl ?_
      refine g_runL (wX_fix a ki kz kl kq) rfl (rn_V C (m_P_code hok5 g8 (fun k hk => (g9 k hk).2) hW) 19 1 wX_19 rfl rfl kc_P_code k_P_40 ki_P_code kx_P_code kn_P hy_P_code ⟨rfl, rfl⟩ ⟨by show 2 + 1 ≤ 3 + 0; omega, by show 8 + (6 + 11) + 41 ≤ 66 + 25 * 0; omega⟩ ⟨Nat.le_refl _, Nat.le_refl _⟩ rfl rfl (Nat.le_of_ble_eq_true rfl) d_P_walkOn_14) (fun r S1 hp => ?_)
      obtain ⟨hS1, rfl⟩ := hp
      refine GG.at hS1 ?_
      refine g_runV (wX_fix a ki kz kl kq) rfl (rn_VN C (m_H_add (n := n) (by have := cd_bd hW hok5; omega) g10.1 hcap g10.2.1 g10.2.2) 17 1 wX_17 rfl rfl kc_H_add k_P_44 ki_H_add kx_H_add kn_H hy_H_add ⟨rfl, rfl⟩ ⟨by show 0 + 1 ≤ 3 + 0; omega, by show 8 + (4 + 11) + 0 ≤ 66 + 25 * 0; omega⟩ ⟨Nat.le_refl _, Nat.le_refl _⟩ rfl rfl (Nat.le_of_ble_eq_true rfl) d_P_walkOn_17) (fun S1 hp => ?_)
      refine g_vret C hr hk d_P_walkOn_20 ⟨rfl, ?_⟩
      rw [show dfS S u _ u seen = [[]] from df_b _ _]
      exact wkp_goal hp
  | succ d ih =>
    intro S u seen px n hw
    obtain ⟨g1, g2, g3, g4, g5, g6, g7, g8, g9, g10, g11⟩ := hw
    refine MM.go b_P_walkOn 6 none "NextPaths$PathFinder" [(0, .ref (a 19)), (1, .int (iI u)), (2, .int (iI (px.length : Int)))] (by decide) rfl rfl (Nat.le_of_ble_eq_true rfl) ?_
    intro p e s m args below meth c C hr hk
    refine g_iload_n C d_P_walkOn_0 rfl rfl ?_
    refine g_aload_n C d_P_walkOn_1 rfl rfl ?_
    refine g_get C 19 4 i_P wX_19 rfl (by decide) k_P_32 rfl rfl d_P_walkOn_2 rfl ?_
    refine g_icmp_ne (tgt := 21) C d_P_walkOn_5 (by decide) rfl (by omega) (by omega) (fun h5 => ?_) (fun h5 => ?_)
    · refine g_iload_n C d_P_walkOn_21 rfl rfl ?_
      refine g_bipush (z := 7) C d_P_walkOn_22 rfl (by decide) ?_
      refine g_icmp_lt (tgt := 28) C d_P_walkOn_24 (by decide) rfl (by omega) (by omega) (fun h24 => ?_) (fun h24 => ?_)
      · refine g_aload_n C d_P_walkOn_28 rfl rfl ?_
        refine g_get C 19 2 i_P wX_19 rfl (by decide) k_P_9 rfl rfl d_P_walkOn_29 rfl ?_
        refine g_iload_n C d_P_walkOn_32 rfl rfl ?_
        refine g_iconst (z := 1) C d_P_walkOn_33 rfl rfl ?_
        refine g_zast C 20 1 wX_20 rfl (by omega) (by omega) (by decide) (by omega) wX_s20 d_P_walkOn_34 rfl ?_
        refine g_iconst (z := 0) C d_P_walkOn_35 rfl rfl ?_
        refine g_nm (fun i0 e_i0 => ?_)
        refine g_istore_n (lv' := [(3, .int (iI i0)), (0, .ref (a 19)), (1, .int (iI u)), (2, .int (iI (px.length : Int)))]) C d_P_walkOn_36 (by decide) rfl rfl ?_
        subst e_i0
        refine lo_P_walkOn g1 g2 g3 g4 g5 g6 g7 g8 g9 g11 (by omega) ih C hr hk _ 0 _ (by omega) (Nat.le_add_left _ _) ⟨eqx_us eqx_rf (by simp), fun v v0 v1 => ?_, fun j _ _ => by rw [us_n (by decide)], ?_, fun v => ?_⟩
        · rw [us_s]
          by_cases e : v = u
          · subst e; rw [up_s]; simp
          · rw [up_n e, g6 v v0 v1]; simp [e]
        · simp only [List.take_zero, List.flatMap_nil, cds, List.map_nil, List.length_nil, Nat.add_zero]
          unfold HPs at *
          rw [us_n (by decide), us_n (by decide)]
          exact g10
        · simp only [List.take_zero, List.flatMap_nil, cds, List.map_nil, List.length_nil, Nat.add_zero, List.count_nil]
          rw [us_n (by decide)]
          simp
      · exact absurd h24 (by omega)
    · have hub : u = b := by omega
      subst hub
      have hok5 : ok5 px := ⟨by omega, fun k hk => by have := g9 k hk; omega⟩
      have hW : ∀ k, 0 ≤ S 4 k ∧ S 4 k ≤ 1000 := fun k => ⟨(g1.2.2.1.2.2.1 k).2.2.2.2.1, (g1.2.2.1.2.2.1 k).2.2.2.2.2.1⟩
      have hcap : n < 1458 := by rw [show dfS S u _ u seen = [[]] from df_b _ _] at g11; simp at g11; omega
      refine g_aload_n C d_P_walkOn_8 rfl rfl ?_
      refine g_get C 19 1 i_P wX_19 rfl (by decide) k_P_23 rfl rfl d_P_walkOn_9 rfl ?_
      refine g_aload_n C d_P_walkOn_12 rfl rfl ?_
      refine g_iload_n C d_P_walkOn_13 rfl rfl ?_
      refine g_runL (wX_fix a ki kz kl kq) rfl (rn_V C (m_P_code hok5 g8 (fun k hk => (g9 k hk).2) hW) 19 1 wX_19 rfl rfl kc_P_code k_P_40 ki_P_code kx_P_code kn_P hy_P_code ⟨rfl, rfl⟩ ⟨by show 2 + 1 ≤ 3 + (d + 1); omega, by show 8 + (6 + 11) + 41 ≤ 66 + 25 * (d + 1); omega⟩ ⟨Nat.le_refl _, Nat.le_refl _⟩ rfl rfl (Nat.le_of_ble_eq_true rfl) d_P_walkOn_14) (fun r S1 hp => ?_)
      obtain ⟨hS1, rfl⟩ := hp
      refine GG.at hS1 ?_
      refine g_runV (wX_fix a ki kz kl kq) rfl (rn_VN C (m_H_add (n := n) (by have := cd_bd hW hok5; omega) g10.1 hcap g10.2.1 g10.2.2) 17 1 wX_17 rfl rfl kc_H_add k_P_44 ki_H_add kx_H_add kn_H hy_H_add ⟨rfl, rfl⟩ ⟨by show 0 + 1 ≤ 3 + (d + 1); omega, by show 8 + (4 + 11) + 0 ≤ 66 + 25 * (d + 1); omega⟩ ⟨Nat.le_refl _, Nat.le_refl _⟩ rfl rfl (Nat.le_of_ble_eq_true rfl) d_P_walkOn_17) (fun S1 hp => ?_)
      refine g_vret C hr hk d_P_walkOn_20 ⟨rfl, ?_⟩
      rw [show dfS S u _ u seen = [[]] from df_b _ _]
      exact wkp_goal hp

