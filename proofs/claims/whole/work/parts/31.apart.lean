/-! what the flow's cost is: the least weight of paths that are apart -/
def FI (n N : Nat) (F T W Sh : Int → Int) (a b c : Int) (et eh ec er : Int → Int) (kp tot : Int) : Prop :=
  NE n N F T W Sh a b et eh ec ∧ (∀ e : Int, 0 ≤ e → e < (2 * (oa Sh n + nv a b N) : Nat) → 0 ≤ er e) ∧ CA n N Sh a b c er ∧
  (∀ q : Int → Int, gs (oa Sh n + nv a b N) er (fun e => q (et e) - q (eh e)) = kp * (q (2 * a + 1) - q (2 * b))) ∧ gs (oa Sh n + nv a b N) er ec = tot ∧ ∃ p, ed (2 * (oa Sh n + nv a b N)) et eh ec er p
theorem tt_len {f : List Int → Int} (hf : ∀ P, f P ≤ 1) : ∀ L, tt f L ≤ L.length
  | [] => by simp [tt]
  | P :: L => by have := tt_len hf L; have := hf P; simp only [tt, List.length_cons]; omega
theorem tt_none {f : List Int → Int} : ∀ L, (∀ P, P ∈ L → f P = 0) → tt f L = 0
  | [], _ => rfl
  | P :: L, h => by have := tt_none L (fun Q hQ => h Q (List.mem_cons_of_mem _ hQ)); have := h P List.mem_cons_self; simp only [tt]; omega
theorem vq_opn {n : Nat} {F T Sh : Int → Int} {b : Int} : ∀ (P : List Int) (u : Int) (seen : List Int), vq n F T Sh b u seen P → ∀ k, k ∈ P → Sh k = 0 := by
  intro P
  induction P with
  | nil => intro u seen _ k hk; cases hk
  | cons j P ih =>
    intro u seen h k hk
    obtain ⟨a0, a1, a2, a3, a4, a5, a6⟩ := h
    rcases List.mem_cons.mp hk with rfl | hk
    · exact a4
    · exact ih _ _ a6 k hk
theorem da_tt' {f : List Int → List Int} : ∀ (Ps : List (List Int)), (∀ P, P ∈ Ps → (f P).Nodup) → Ps.Pairwise (fun P Q => da (f P) (f Q)) → ∀ k, tt (fun P => ((f P).count k : Nat)) Ps ≤ 1 ∧ ((∀ P, P ∈ Ps → k ∉ f P) → tt (fun P => ((f P).count k : Nat)) Ps = 0) := by
  intro Ps
  induction Ps with
  | nil => intro _ _ k; exact ⟨by simp [tt], fun _ => rfl⟩
  | cons P Ps ih =>
    intro hf h k
    obtain ⟨h1, h2⟩ := List.pairwise_cons.mp h
    obtain ⟨i1, i2⟩ := ih (fun Q hQ => hf Q (List.mem_cons_of_mem _ hQ)) h2 k
    simp only [tt]
    refine ⟨?_, fun hn => ?_⟩
    · by_cases c : k ∈ f P
      · have := i2 (fun Q hQ => h1 Q hQ k c)
        have := List.nodup_iff_count.mp (hf P List.mem_cons_self) k
        omega
      · have : (f P).count k = 0 := List.count_eq_zero.mpr c
        omega
    · have : (f P).count k = 0 := List.count_eq_zero.mpr (hn P List.mem_cons_self)
      have := i2 (fun Q hQ => hn Q (List.mem_cons_of_mem _ hQ))
      omega
theorem tt_len' {f : List Int → Int} : ∀ L, (∀ P, P ∈ L → f P ≤ 1) → tt f L ≤ L.length
  | [], _ => by simp [tt]
  | P :: L, h => by have := tt_len' L (fun Q hQ => h Q (List.mem_cons_of_mem _ hQ)); have := h P List.mem_cons_self; simp only [tt, List.length_cons]; omega
theorem apart_ok {n N : Nat} {F T W Sh : Int → Int} {a b c : Int} {et eh ec er : Int → Int} {cn : Nat} {tot by_ : Int} (hab : a ≠ b) (hW : ∀ k, 0 ≤ W k) (hT : ∀ k : Int, 0 ≤ k → k < n → 0 ≤ T k ∧ T k < N) (h : FI n N F T W Sh a b c et eh ec er cn tot) (h1 : 1 ≤ cn) (hc0 : by_ ≠ 1 → (cn : Int) ≤ c) (hc1 : by_ = 1 → c = 1)
    {L : List (List Int)} (hL : ∀ P, P ∈ L ↔ vq n F T Sh b a [] P) (hs : L.Pairwise (fun P Q => wp W P ≤ wp W Q)) {cf : List Int → List (List Int) → Bool} (hcf : ∀ P u, cf P u = false ↔ ∀ R, R ∈ u → ap T by_ R P) : se (wp W) cf L cn 0 [] (-1) = tot := by
  obtain ⟨f1, f2, f3, f4, f5, p, f6⟩ := h
  have hG := ne_gf f1 f4
  have hbx := ne_bx f2 f3
  have hby := ne_by f2 f3
  have hpo := ne_po f1 f3 f6.2.2
  rw [ne_cs f1] at f5
  have hwp : ∀ P, 0 ≤ wp W P := by
    intro P
    induction P with
    | nil => exact Int.le_refl _
    | cons k P ih => simp only [wp]; have := hW k; omega
  obtain ⟨s0, s1, s2, s3⟩ := se_spec (T := T) (by_ := by_) (w := wp W) hwp hcf L hs cn 0 [] (-1) h1 (Int.le_refl _) (Int.le_refl _)
  generalize se (wp W) cf L cn 0 [] (-1) = r at *
  -- there are such paths, and they weigh no more
  obtain ⟨Ps, p1, p2, p3, p4, p5⟩ := gf_split (Sh := Sh) (W := W) hab hW hT cn (fx Sh er) (fy n Sh a b er) hG (fun k k0 k1 => (hbx k k0 k1).1) (fun v v0 v1 => (hby v v0 v1).1) (fun k k0 k1 hk => by
    refine Classical.byContradiction (fun q => ?_)
    unfold fx at hk; rw [if_neg q] at hk; omega) (by unfold fy; rw [if_pos (Or.inl rfl)])
  have hua : ∀ k, ua Sh k ≤ 1 := fun k => by unfold ua; split <;> omega
  have d1 : Ps.Pairwise (fun P Q => da P Q) := tt_da (f := fun P => P) Ps (fun k => by
    by_cases r0 : 0 ≤ k ∧ k < n
    · have := p3 k r0.1 r0.2; have := hbx k r0.1 r0.2; have := hua k; omega
    · rw [tt_none Ps (fun P hP => by
        have : P.count k = 0 := List.count_eq_zero.mpr (fun hk => r0 (vq_arcs P a [] (p2 P hP) k hk))
        omega)]; omega)
  have d2 : by_ = 1 → Ps.Pairwise (fun P Q => da (inn T P) (inn T Q)) := fun hb1 => tt_da (f := fun P => inn T P) Ps (fun k => by
    by_cases r0 : 0 ≤ k ∧ k < N
    · have := p4 k r0.1 r0.2; have := (hby k r0.1 r0.2).2
      have : zn a b c k ≤ 1 := by unfold zn; rw [hc1 hb1]; split <;> omega
      omega
    · rw [tt_none Ps (fun P hP => by
        have : (inn T P).count k = 0 := List.count_eq_zero.mpr (fun hk => r0 (by
          obtain ⟨j, j1, j2⟩ := inn_mem P k hk
          have := vq_arcs P a [] (p2 P hP) j j1
          rw [← j2]; exact hT j this.1 this.2))
        omega)]; omega)
  have d3 : Ps.Pairwise (ap T by_) := by
    by_cases hb1 : by_ = 1
    · exact (d1.and (d2 hb1)).imp (fun h => ⟨h.1, fun _ => h.2⟩)
    · exact d1.imp (fun h => ⟨h, fun z => absurd z hb1⟩)
  have hnz : ∀ P, P ∈ Ps → P ≠ [] := fun P hP e => by
    have := p2 P hP
    rw [e] at this
    exact hab this
  have hnd : Ps.Nodup := by
    refine List.Pairwise.imp_of_mem (R := fun P Q => da P Q) (fun {P Q} hP _ hd e => ?_) d1
    subst e
    cases P with
    | nil => exact hnz _ hP rfl
    | cons k P => exact hd k List.mem_cons_self List.mem_cons_self
  obtain ⟨Q, q1, q2⟩ := sub_perm L Ps hnd (fun P hP => (hL P).mpr (p2 P hP))
  have q3 : Q.Pairwise (ap T by_) := (q2.pairwise_iff (fun {_ _} h => ap_sym h)).mpr d3
  obtain ⟨u1, u2⟩ := s3 Q q1 (by rw [q2.length_eq, p1]) ⟨(fun _ _ _ hR => by cases hR), q3⟩
  rw [tt_perm q2] at u2
  -- and none such weigh less
  rcases s2 with e | ⟨Q', z1, z2, z3, z4⟩
  · exact absurd e u1
  · have hv : ∀ P, P ∈ Q' → vq n F T Sh b a [] P := fun P hP => (hL P).mp (z1.subset hP)
    have hJ := gf_join (Sh := Sh) (F := F) hab hT Q' hv
    rw [z2] at hJ
    have e1 : Q'.Pairwise (fun P Q => da P Q) := z3.2.imp (fun h => h.1)
    have hn1 : ∀ P, P ∈ Q' → P.Nodup := fun P hP => vq_nodup P a [] (hv P hP)
    have hn2 : ∀ P, P ∈ Q' → (inn T P).Nodup := fun P hP => (vq_inn P a [] (hv P hP)).1
    have hb1 : bn n (fun k => tt (fun P => (P.count k : Nat)) Q') (ua Sh) := fun k k0 k1 => by
      refine ⟨tt_nn (fun P => by omega) Q', ?_⟩
      show tt (fun P => (P.count k : Nat)) Q' ≤ ua Sh k
      by_cases so : Sh k = 0
      · have := (da_tt' (f := fun P => P) Q' hn1 e1 k).1
        unfold ua; rw [if_pos so]; exact this
      · rw [tt_none Q' (fun P hP => by
          have : P.count k = 0 := List.count_eq_zero.mpr (fun hk => so (vq_opn P a [] (hv P hP) k hk))
          omega)]
        unfold ua; rw [if_neg so]; omega
    have hb2 : bn N (fun v => tt (fun P => ((inn T P).count v : Nat)) Q') (zn a b c) := fun v v0 v1 => by
      refine ⟨tt_nn (fun P => by omega) Q', ?_⟩
      show tt (fun P => ((inn T P).count v : Nat)) Q' ≤ zn a b c v
      by_cases so : v = a ∨ v = b
      · rw [tt_none Q' (fun P hP => by
          have : (inn T P).count v = 0 := List.count_eq_zero.mpr (fun hk => by
            obtain ⟨i1, i2, i3⟩ := vq_inn P a [] (hv P hP)
            rcases so with rfl | rfl
            · exact i3 v hk List.mem_cons_self
            · exact i2 hk)
          omega)]
        unfold zn; rw [if_pos so]; omega
      · unfold zn; rw [if_neg so]
        by_cases hby1 : by_ = 1
        · have := (da_tt' (f := fun P => inn T P) Q' hn2 (z3.2.imp (fun h => h.2 hby1)) v).1
          rw [hc1 hby1]; exact this
        · have := hc0 hby1
          have : tt (fun P => ((inn T P).count v : Nat)) Q' ≤ Q'.length := tt_len' Q' (fun P hP => by have := List.nodup_iff_count.mp (hn2 P hP) v; omega)
          omega
    have hop := gf_opt hpo hG hJ hb1 hb2
    rw [tt_wp Q' (fun P hP => vq_arcs P a [] (hv P hP))] at hop
    omega
