theorem g_end {p : Program} {l : Launch} {e : Env} {s : State} {m : MethodId} {below : List Frame} {meth : Method} {c : Code} {D : va_G} {b : Nat} {τ : Type} {w : τ → va_W} {x : τ} {lv : List (Nat × Value)} {tys : List (ClassId × FieldType)} (C : CX p s m #[Value.ref b] c b_L_law 4 "NextPathsLaw" TT D cls tys) (hr : meth.sig.returnType = ret) (hk : meth.locks = false) : GG p l e room_1 s m #[Value.ref b] below meth c D cls (fun q => s.heap.size ≤ q) 4 600000 7302250 (lw_Z below #[Value.ref b] s) w x lv 673 [.int (iI 1)] := by
  intro H locs ls hP hD hS hl
  refine va_forget hS.2.2 ?_
  rw [show iI 1 = 1 by decide]
  exact lw_ret C.1 C.2.1 hr hk d_L_law_673

set_option maxRecDepth 100000 in
set_option maxHeartbeats 4000000 in
/-- the law's loop -/
theorem law_loop {p : Program} {l : Launch} {e : Env} {s : State} {m : MethodId} {below : List Frame} {meth : Method} {c : Code} {D : va_G} {a a' : Nat → Nat} {ki kz kl kq : ClassId} {b L : Nat} {xs : Nat → Int32} (C : CX p s m #[Value.ref b] c b_L_law 4 "NextPathsLaw" TT D cls (tyz ki kz kl kq)) (hX : va_X b L xs s s.heap) (hbl : b < s.heap.size) (hL : L ≤ 2560) (hr : meth.sig.returnType = ret) (hlk : meth.locks = false) : ∀ (j : Nat) (i : Int) (S Y : Nat → Int → Int), 0 ≤ i → i ≤ 2565 → (L : Int) ≤ i + j → REL S Y → GG p l e room_1 s m #[Value.ref b] below meth c D cls (fun q => s.heap.size ≤ q) 4 600000 7302250 (lw_Z below #[Value.ref b] s) (wL a a' ki kz kl kq) (S, Y) [(3, .int (iI i)), (0, .ref b), (1, .ref (a 0)), (2, .ref (a' 0))] 18 [] := by
  have hbA : ¬ (fun q => s.heap.size ≤ q) b := Nat.not_le.mpr hbl
  intro j
  induction j with
  | zero =>
    intro i S Y hi0 hi9 hj hR
    refine g_iload_n C d_L_law_18 rfl rfl ?_
    refine g_aload_n C d_L_law_19 rfl rfl ?_
    refine g_slen C hX hbl hbA d_L_law_20 rfl ?_
    refine g_iconst (z := 5) C d_L_law_21 rfl rfl ?_
    refine g_isub C d_L_law_22 rfl rfl ?_
    refine g_icmp_gt (tgt := 672) C d_L_law_23 (by decide) rfl (by omega) (by omega) (fun h23 => ?_) (fun h23 => absurd h23 (by omega))
    refine g_iconst (z := 1) C d_L_law_672 rfl rfl ?_
    exact g_end C hr hlk
  | succ j ih =>
    intro i S Y hi0 hi9 hj hR
    refine g_iload_n C d_L_law_18 rfl rfl ?_
    refine g_aload_n C d_L_law_19 rfl rfl ?_
    refine g_slen C hX hbl hbA d_L_law_20 rfl ?_
    refine g_iconst (z := 5) C d_L_law_21 rfl rfl ?_
    refine g_isub C d_L_law_22 rfl rfl ?_
    refine g_icmp_gt (tgt := 672) C d_L_law_23 (by decide) rfl (by omega) (by omega) (fun h23 => ?_) (fun h23 => ?_)
    · refine g_iconst (z := 1) C d_L_law_672 rfl rfl ?_
      exact g_end C hr hlk
    have hnext : ∀ S' Y' : Nat → Int → Int, REL S' Y' → GG p l e room_1 s m #[Value.ref b] below meth c D cls (fun q => s.heap.size ≤ q) 4 600000 7302250 (lw_Z below #[Value.ref b] s) (wL a a' ki kz kl kq) (S', Y') [(3, .int (iI i)), (0, .ref b), (1, .ref (a 0)), (2, .ref (a' 0))] 666 [] := fun S' Y' hR' => by
      obtain ⟨i2, e_i2⟩ : ∃ z : Int, z = i + 5 := ⟨_, rfl⟩
      refine g_iinc (q := 0) (z := i2) (lv' := [(3, .int (iI i2)), (0, .ref b), (1, .ref (a 0)), (2, .ref (a' 0))]) C d_L_law_666 rfl e_i2.symm (by decide) rfl rfl ?_
      refine g_goto (tgt := 18) C d_L_law_669 (by decide) ?_
      exact ih i2 S' Y' (by omega) (by omega) (by omega) hR'
    refine g_aload_n C d_L_law_26 rfl rfl ?_
    refine g_iload_n C d_L_law_27 rfl rfl ?_
    refine g_sld C hX hbl hbA (by omega) (by omega) hL d_L_law_28 rfl ?_
    refine g_bipush (z := 15) C d_L_law_29 rfl (by decide) ?_
    obtain ⟨k, hk16, hk⟩ := and15 (iI (zs xs i))
    refine g_iand (z := k) C d_L_law_31 hk rfl ?_
    rcases (show k = 0 ∨ k = 1 ∨ k = 2 ∨ k = 3 ∨ k = 4 ∨ k = 5 ∨ k = 6 ∨ k = 7 ∨ k = 8 ∨ k = 9 ∨ k = 10 ∨ k = 11 ∨ k = 12 ∨ k = 13 ∨ k = 14 ∨ k = 15 by omega) with hk | hk | hk | hk | hk | hk | hk | hk | hk | hk | hk | hk | hk | hk | hk | hk
    · refine g_tin (off := 80) (tgt := 112) C (show k = 0 by omega) d_L_law_32 (by decide) (by decide) (by decide) rfl (by decide) ?_
      exact law_clear C hX hbl hbA hL hi0 (by omega) hR hnext
    · refine g_tin (off := 93) (tgt := 125) C (show k = 1 by omega) d_L_law_32 (by decide) (by decide) (by decide) rfl (by decide) ?_
      exact law_node C hX hbl hbA hL hi0 (by omega) hR hnext
    · refine g_tin (off := 106) (tgt := 138) C (show k = 2 by omega) d_L_law_32 (by decide) (by decide) (by decide) rfl (by decide) ?_
      exact law_arc C hX hbl hbA hL hi0 (by omega) hR hnext
    · refine g_tin (off := 159) (tgt := 191) C (show k = 3 by omega) d_L_law_32 (by decide) (by decide) (by decide) rfl (by decide) ?_
      exact law_change C hX hbl hbA hL hi0 (by omega) hR hnext
    · refine g_tin (off := 202) (tgt := 234) C (show k = 4 by omega) d_L_law_32 (by decide) (by decide) (by decide) rfl (by decide) ?_
      exact law_shut C hX hbl hbA hL hi0 (by omega) hR hnext
    · refine g_tin (off := 251) (tgt := 283) C (show k = 5 by omega) d_L_law_32 (by decide) (by decide) (by decide) rfl (by decide) ?_
      exact law_next C hX hbl hbA hL hi0 (by omega) hR hnext
    · refine g_tin (off := 294) (tgt := 326) C (show k = 6 by omega) d_L_law_32 (by decide) (by decide) (by decide) rfl (by decide) ?_
      exact law_count C hX hbl hbA hL hi0 (by omega) hR hnext
    · refine g_tin (off := 327) (tgt := 359) C (show k = 7 by omega) d_L_law_32 (by decide) (by decide) (by decide) rfl (by decide) ?_
      exact law_apart C hX hbl hbA hL hi0 (by omega) hR hnext
    · refine g_tin (off := 380) (tgt := 412) C (show k = 8 by omega) d_L_law_32 (by decide) (by decide) (by decide) rfl (by decide) ?_
      exact law_most C hX hbl hbA hL hi0 (by omega) hR hnext
    · refine g_tin (off := 423) (tgt := 455) C (show k = 9 by omega) d_L_law_32 (by decide) (by decide) (by decide) rfl (by decide) ?_
      exact law_within C hX hbl hbA hL hi0 (by omega) hR hnext
    · refine g_tin (off := 466) (tgt := 498) C (show k = 10 by omega) d_L_law_32 (by decide) (by decide) (by decide) rfl (by decide) ?_
      exact law_pairs C hX hbl hbA hL hi0 (by omega) hR hnext
    · refine g_tin (off := 499) (tgt := 531) C (show k = 11 by omega) d_L_law_32 (by decide) (by decide) (by decide) rfl (by decide) ?_
      exact law_pair C hX hbl hbA hL hi0 (by omega) hR hnext
    · refine g_tin (off := 532) (tgt := 564) C (show k = 12 by omega) d_L_law_32 (by decide) (by decide) (by decide) rfl (by decide) ?_
      exact law_step C hX hbl hbA hL hi0 (by omega) hR hnext
    · refine g_tin (off := 555) (tgt := 587) C (show k = 13 by omega) d_L_law_32 (by decide) (by decide) (by decide) rfl (by decide) ?_
      exact law_sum C hX hbl hbA hL hi0 (by omega) hR hnext
    · refine g_tin (off := 578) (tgt := 610) C (show k = 14 by omega) d_L_law_32 (by decide) (by decide) (by decide) rfl (by decide) ?_
      exact law_told C hX hbl hbA hL hi0 (by omega) hR hnext
    · refine g_tin (off := 611) (tgt := 643) C (show k = 15 by omega) d_L_law_32 (by decide) (by decide) (by decide) rfl (by decide) ?_
      exact law_of C hX hbl hbA hL hi0 (by omega) hR hnext

/-- the array classes -/
theorem arr_K {s : State} {a : Array Value} {ty : FieldType} (h : (Cond.arrayClass ty).before a s = true) : ∃ cA : ClassId, ArrOfT s cA ty ∧ s.vm.findClass ("[" ++ ty.toString) = some cA := by
  obtain ⟨cA, kA, comp, h1, h2, h3⟩ := Cond.arrayClass_spec h
  exact ⟨cA, fun n z => ⟨(fun k h => by cases h), kA, h2, comp, h3⟩, h1⟩
theorem grid_K {s : State} {a : Array Value} (h : (Cond.arrayOver (.array .int)).before a s = true) : ∃ cA : ClassId, ArrOfT s cA (.array .int) ∧ s.vm.findClass ("[" ++ (FieldType.array .int).toString) = some cA := by
  obtain ⟨comp, cA, kA, p1, p2, p3, p4, p5⟩ := Jvm.Stand.arrayOver_specB h
  exact ⟨cA, fun n z => ⟨(fun k h => by cases h), kA, p3, comp, p4⟩, p5⟩

set_option maxRecDepth 100000 in
set_option maxHeartbeats 4000000 in
/-- the law, from its entry -/
theorem whole_start {p : Program} {e : Env} {s : State} {m : MethodId} {below : List Frame} {meth : Method} {c : Code} (l : Launch) {b L : Nat} {xs : Nat → Int32} (hL : L ≤ 2560) (C0 : lw_At p s m meth c b L xs) : W p l e room_1 s m #[Value.ref b] below meth c s.heap [] 0 0 (lw_Z below #[Value.ref b] s) (entryFrame m ([Value.ref b] : List Value).toArray 4) := by
  obtain ⟨hx, hb, hr, hml, hown, hts, hX, hbl, hlocks, hgv⟩ := id C0
  have htt : ∀ w ∈ TT, w.before #[Value.ref b] s = true := fun w hw => hts w (List.mem_filter.mp hw).1
  obtain ⟨c0, i0, hK0⟩ := u_known (C := "NextPaths") (T := F_N) (N := 6) (n := 6) htt i_N (htt _ kz_N)
  obtain ⟨c1, i1, hK1⟩ := u_known (C := "NextPaths$Graph") (T := F_G) (N := 9) (n := 9) htt i_G (htt _ kz_G)
  obtain ⟨c2, i2, hK2⟩ := u_known (C := "NextPaths$PathHeap") (T := F_H) (N := 2) (n := 2) htt i_H (htt _ kz_H)
  obtain ⟨c3, i3, hK3⟩ := u_known (C := "NextPaths$PathFinder") (T := F_P) (N := 5) (n := 5) htt i_P (htt _ kz_P)
  obtain ⟨c4, i4, hK4⟩ := u_known (C := "NextPaths$ToldPath") (T := F_T) (N := 4) (n := 4) htt i_T (htt _ kz_T)
  obtain ⟨c5, i5, hK5⟩ := u_known (C := "NextPaths$BestPairs") (T := F_B) (N := 3) (n := 3) htt i_B (htt _ kz_B)
  obtain ⟨c6, i6, hK6⟩ := u_known (C := "NextPaths$Flow") (T := F_F) (N := 10) (n := 10) htt i_F (htt _ kz_F)
  obtain ⟨c7, i7, hK7⟩ := u_known (C := "NextPathsModel") (T := F_M) (N := 28) (n := 28) htt i_M (htt _ kz_M)
  obtain ⟨dC, dI, hKc⟩ : ∃ (dC : Nat → ClassId) (dI : Nat → Nat → Nat), ∀ (k : Nat) (q : vw_C), cls[k]? = some q → u_Kn s q.1 q.2.1 q.2.2 (dC k) (dI k) := by
    refine ⟨fun k => if k = 0 then c0 else if k = 1 then c1 else if k = 2 then c2 else if k = 3 then c3 else if k = 4 then c4 else if k = 5 then c5 else if k = 6 then c6 else c7, fun k => if k = 0 then i0 else if k = 1 then i1 else if k = 2 then i2 else if k = 3 then i3 else if k = 4 then i4 else if k = 5 then i5 else if k = 6 then i6 else i7, ?_⟩
    intro k q hq
    match k, hq with
    | 0, hq => cases hq; exact hK0
    | 1, hq => cases hq; exact hK1
    | 2, hq => cases hq; exact hK2
    | 3, hq => cases hq; exact hK3
    | 4, hq => cases hq; exact hK4
    | 5, hq => cases hq; exact hK5
    | 6, hq => cases hq; exact hK6
    | 7, hq => cases hq; exact hK7
    | k + 8, hq => simp [cls] at hq
  obtain ⟨ki, aI1, aI2⟩ := arr_K (htt _ ka_int)
  obtain ⟨kz, aZ1, aZ2⟩ := arr_K (htt _ ka_boolean)
  obtain ⟨kl, aL1, aL2⟩ := arr_K (htt _ ka_long)
  obtain ⟨kq, aQ1, aQ2⟩ := grid_K (hts _ ka_grid)
  have hK : va_K (dC, dI) cls (tyz ki kz kl kq) s := by
    refine ⟨hKc, fun k q hq => ?_⟩
    match k, hq with
    | 0, hq => cases hq; exact ⟨aI1, aI2⟩
    | 1, hq => cases hq; exact ⟨aZ1, aZ2⟩
    | 2, hq => cases hq; exact ⟨aL1, aL2⟩
    | 3, hq => cases hq; exact ⟨aQ1, aQ2⟩
    | k + 4, hq => simp [tyz] at hq
  have hO : AOW s := AOW.of (hts _ ka_grid)
  have C : CX p s m #[Value.ref b] c b_L_law 4 "NextPathsLaw" TT (dC, dI) cls (tyz ki kz kl kq) := ⟨hx, hb, hml, hown, htt, hK, NW.of hts⟩
  have hA : ∀ q : Nat, s.heap.size ≤ q → (fun q : Nat => s.heap.size ≤ q) q := fun _ h => h
  have hl := lv_entry ([.ref b]) (n := 4) (Nat.le_of_ble_eq_true rfl)
  rw [lg_entry_eq]
  have main : GG p l e room_1 s m #[Value.ref b] below meth c (dC, dI) cls (fun q : Nat => s.heap.size ≤ q) 4 0 0 (lw_Z below #[Value.ref b] s) idw [] [(0, .ref b)] 0 [] := by
    refine g_new (ci := 0) (fs := [.null, .null, .null, .null, .null, .null]) C hA ty_N i_N ty_N_ok k_L_7 kz_N kn_N rfl (fun j hj => ?_) (by decide) (by decide) d_L_law_0 rfl (fun qN => ?_)
    · match j, hj with
      | 0, _ => rfl
      | 1, _ => rfl
      | 2, _ => rfl
      | 3, _ => rfl
      | 4, _ => rfl
      | 5, _ => rfl
      | j + 6, hj => exact absurd hj (by omega)
    refine g_dup C d_L_law_3 rfl rfl ?_
    refine g_ci (R := room_1) (nc := 1) (ns := 6) (st := [.ref qN]) (wr := []) (win := [(qN, .inr (0, [.null, .null, .null, .null, .null, .null]))]) C hO hA (c_N_init (h0 := qN)) 0 kc_N_init k_L_9 ki_N_init kn_N rfl hy_N_init ⟨rfl, rfl⟩ ⟨by decide, by decide⟩ ⟨by decide, by decide⟩ rfl rfl (Nat.le_of_ble_eq_true rfl) d_L_law_4 rfl (fun gN => ?_)
    refine g_astore_n (lv' := [(1, .ref qN), (0, .ref b)]) C d_L_law_7 (by decide) rfl rfl ?_
    refine g_new (ci := 7) (fs := [.int (iI 0), .int (iI 0), .null, .null, .null, .null, .null, .int (iI 0), .null, .null, .null, .null, .null, .null, .int (iI 0), .int (iI 0), .int (iI 0), .int (iI 0), .long (lI 0), .int (iI 0), .null, .null, .null, .null, .null, .null, .null, .null]) C hA ty_M i_M ty_M_ok k_L_10 kz_M kn_M rfl (fun j hj => ?_) (by decide) (by decide) d_L_law_8 rfl (fun qM => ?_)
    · match j, hj with
      | 0, _ => rfl
      | 1, _ => rfl
      | 2, _ => rfl
      | 3, _ => rfl
      | 4, _ => rfl
      | 5, _ => rfl
      | 6, _ => rfl
      | 7, _ => rfl
      | 8, _ => rfl
      | 9, _ => rfl
      | 10, _ => rfl
      | 11, _ => rfl
      | 12, _ => rfl
      | 13, _ => rfl
      | 14, _ => rfl
      | 15, _ => rfl
      | 16, _ => rfl
      | 17, _ => rfl
      | 18, _ => rfl
      | 19, _ => rfl
      | 20, _ => rfl
      | 21, _ => rfl
      | 22, _ => rfl
      | 23, _ => rfl
      | 24, _ => rfl
      | 25, _ => rfl
      | 26, _ => rfl
      | 27, _ => rfl
      | j + 28, hj => exact absurd hj (by omega)
    refine g_dup C d_L_law_11 rfl rfl ?_
    refine g_ci (R := room_1) (nc := 35) (ns := 4995) (st := [.ref qM]) (wr := [] ++ wX (ax qN gN) ki kz kl kq Z0) (win := [(qM, .inr (7, [.int (iI 0), .int (iI 0), .null, .null, .null, .null, .null, .int (iI 0), .null, .null, .null, .null, .null, .null, .int (iI 0), .int (iI 0), .int (iI 0), .int (iI 0), .long (lI 0), .int (iI 0), .null, .null, .null, .null, .null, .null, .null, .null]))]) C hO hA (c_M_init (h0 := qM)) 0 kc_M_init k_L_12 ki_M_init kn_M rfl hy_M_init ⟨rfl, rfl⟩ ⟨by decide, by decide⟩ ⟨by decide, by decide⟩ rfl rfl (Nat.le_of_ble_eq_true rfl) d_L_law_12 rfl (fun gM => ?_)
    refine g_astore_n (lv' := [(2, .ref qM), (1, .ref qN), (0, .ref b)]) C d_L_law_15 (by decide) rfl rfl ?_
    refine g_iconst (z := 0) C d_L_law_16 rfl rfl ?_
    refine g_istore_n (lv' := [(3, .int (iI 0)), (2, .ref qM), (1, .ref qN), (0, .ref b)]) C d_L_law_17 (by decide) rfl rfl ?_
    refine GG.lvs (lv' := [(3, .int (iI 0)), (0, .ref b), (1, .ref qN), (2, .ref qM)]) (by simp [lk]) ?_
    intro H locs ls hP hD hS hl
    refine W.widen (k := 600000) (n := 7302250) (by omega) (by omega) ?_
    exact law_loop (a := ax qN gN) (a' := ax qM gM) C hX hbl hL hr hlocks L 0 Z0 Z0 (by omega) (by omega) (by omega) REL_0 H locs ls hP hD hS hl
  exact main s.heap [] _ (fun k q h => by simp at h) ⟨fun i j p q h => by simp at h, fun k q h => by simp at h⟩ va_S.rf hl

