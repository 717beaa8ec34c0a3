/-! a flow falls into paths, and paths make a flow -/
theorem vq_fresh {n : Nat} {F T Sh : Int → Int} {b : Int} : ∀ (P : List Int) (u : Int) (seen : List Int), vq n F T Sh b u seen P → ∀ k, k ∈ P → T k ∉ u :: seen := by
  intro P
  induction P with
  | nil => intro u seen _ k hk; cases hk
  | cons j P ih =>
    intro u seen h k hk
    obtain ⟨a0, a1, a2, a3, a4, a5, a6⟩ := h
    rcases List.mem_cons.mp hk with rfl | hk
    · exact a5
    · exact fun hc => ih _ _ a6 k hk (List.mem_cons_of_mem _ hc)
theorem vq_nodup {n : Nat} {F T Sh : Int → Int} {b : Int} : ∀ (P : List Int) (u : Int) (seen : List Int), vq n F T Sh b u seen P → P.Nodup := by
  intro P
  induction P with
  | nil => intro u seen _; exact List.nodup_nil
  | cons j P ih =>
    intro u seen h
    obtain ⟨a0, a1, a2, a3, a4, a5, a6⟩ := h
    refine List.nodup_cons.mpr ⟨fun hj => ?_, ih _ _ a6⟩
    exact vq_fresh P _ _ a6 j hj List.mem_cons_self
theorem inn_mem {T : Int → Int} : ∀ (P : List Int) (c : Int), c ∈ inn T P → ∃ k, k ∈ P ∧ T k = c := by
  intro P
  induction P with
  | nil => intro c hc; cases hc
  | cons j P ih =>
    intro c hc
    unfold inn at hc
    split at hc
    · cases hc
    · rcases List.mem_cons.mp hc with rfl | hc
      · exact ⟨j, List.mem_cons_self, rfl⟩
      · obtain ⟨k, h1, h2⟩ := ih c hc
        exact ⟨k, List.mem_cons_of_mem _ h1, h2⟩
theorem vq_inn {n : Nat} {F T Sh : Int → Int} {b : Int} : ∀ (P : List Int) (u : Int) (seen : List Int), vq n F T Sh b u seen P → (inn T P).Nodup ∧ b ∉ inn T P ∧ ∀ c, c ∈ inn T P → c ∉ u :: seen := by
  intro P
  induction P with
  | nil => intro u seen _; exact ⟨List.nodup_nil, by simp [inn], fun c hc => by cases hc⟩
  | cons j P ih =>
    intro u seen h
    obtain ⟨a0, a1, a2, a3, a4, a5, a6⟩ := h
    obtain ⟨i1, i2, i3⟩ := ih _ _ a6
    unfold inn
    split
    · exact ⟨List.nodup_nil, by simp, fun c hc => by cases hc⟩
    · next hP =>
      refine ⟨List.nodup_cons.mpr ⟨fun hc => i3 _ hc List.mem_cons_self, i1⟩, fun hc => ?_, fun c hc => ?_⟩
      · rcases List.mem_cons.mp hc with h9 | h9
        · rcases P with _ | ⟨k, P⟩
          · exact hP rfl
          · exact a6.1 h9.symm
        · exact i2 h9
      · rcases List.mem_cons.mp hc with rfl | hc
        · exact a5
        · exact fun q => i3 c hc (List.mem_cons_of_mem _ q)
/-- along a path the prices cancel -/
theorem vq_tele {n : Nat} {F T Sh : Int → Int} {b : Int} (q : Int → Int) : ∀ (P : List Int) (u : Int) (seen : List Int), vq n F T Sh b u seen P → P ≠ [] → wp (fun k => q (2 * F k + 1) - q (2 * T k)) P + wp (fun c => q (2 * c) - q (2 * c + 1)) (inn T P) = q (2 * u + 1) - q (2 * b) := by
  intro P
  induction P with
  | nil => intro u seen _ h; exact absurd rfl h
  | cons j P ih =>
    intro u seen h _
    obtain ⟨a0, a1, a2, a3, a4, a5, a6⟩ := h
    by_cases hP : P = []
    · subst hP
      have e : T j = b := a6
      simp [inn, wp, a3, e]
    · have := ih _ _ a6 hP
      simp only [wp, inn, hP, if_false, a3]
      omega
theorem sm_pick {g : Int → Int} {a : Int} (n : Nat) (h0 : 0 ≤ a) (h1 : a < n) : sm (fun k => if a = k then g k else 0) n = g a := by
  have := sm_one (f := fun _ => 0) (g := fun k => if a = k then g k else 0) h0 n h1 (fun j _ _ hj => by
    show (if a = j then g j else 0) = 0
    rw [if_neg (fun q => hj q.symm)])
  rw [sm_zero] at this
  simpa using this
theorem sm_cnt {g : Int → Int} (n : Nat) : ∀ P : List Int, (∀ k, k ∈ P → 0 ≤ k ∧ k < n) → sm (fun k => (P.count k : Nat) * g k) n = wp g P := by
  intro P
  induction P with
  | nil => intro _; simp only [List.count_nil, wp]; rw [← sm_zero n]; exact sm_congr n (fun _ _ _ => by simp)
  | cons a P ih =>
    intro h
    have h1 := ih (fun k hk => h k (List.mem_cons_of_mem _ hk))
    obtain ⟨a0, a1⟩ := h a List.mem_cons_self
    have e : sm (fun k => ((a :: P).count k : Nat) * g k) n = sm (fun k => (P.count k : Nat) * g k + (if a = k then g k else 0)) n := sm_congr n (fun k _ _ => by
      simp only [List.count_cons, beq_iff_eq]
      split <;> simp [Int.add_mul])
    rw [e, sm_add, h1, sm_pick n a0 a1]
    simp only [wp]
    omega
def tt (f : List Int → Int) : List (List Int) → Int
  | [] => 0
  | P :: L => f P + tt f L
theorem tt_nn {f : List Int → Int} (hf : ∀ P, 0 ≤ f P) : ∀ L, 0 ≤ tt f L
  | [] => Int.le_refl _
  | P :: L => by have := tt_nn hf L; have := hf P; simp only [tt]; omega
theorem tt_mem {f : List Int → Int} (hf : ∀ P, 0 ≤ f P) : ∀ L P, P ∈ L → f P ≤ tt f L
  | Q :: L, P, h => by
    simp only [tt]
    rcases List.mem_cons.mp h with rfl | h
    · have := tt_nn hf L; omega
    · have := tt_mem hf L P h; have := hf Q; omega
theorem gf_split {n N : Nat} {F T Sh W : Int → Int} {a b : Int} (hab : a ≠ b) (hW : ∀ k, 0 ≤ W k) (hT : ∀ k : Int, 0 ≤ k → k < n → 0 ≤ T k ∧ T k < N) : ∀ (kp : Nat) (x y : Int → Int), GF n N F T x y a b kp → (∀ k : Int, 0 ≤ k → k < n → 0 ≤ x k) → (∀ v : Int, 0 ≤ v → v < N → 0 ≤ y v) → (∀ k : Int, 0 ≤ k → k < n → 0 < x k → Sh k = 0) → y a = 0 →
    ∃ Ps : List (List Int), Ps.length = kp ∧ (∀ P, P ∈ Ps → vq n F T Sh b a [] P) ∧ (∀ k : Int, 0 ≤ k → k < n → tt (fun P => (P.count k : Nat)) Ps ≤ x k) ∧ (∀ v : Int, 0 ≤ v → v < N → tt (fun P => ((inn T P).count v : Nat)) Ps ≤ y v) ∧ tt (wp W) Ps ≤ sm (fun k => x k * W k) n := by
  intro kp
  induction kp with
  | zero =>
    intro x y _ hx hy _ _
    exact ⟨[], rfl, (fun P h => by cases h), fun k k0 k1 => hx k k0 k1, fun v v0 v1 => hy v v0 v1, sm_nn n (fun k k0 k1 => Int.mul_nonneg (hx k k0 k1) (hW k))⟩
  | succ kp ih =>
    intro x y h hx hy hS hya
    obtain ⟨P, hP, hPx, hPy⟩ := gf_path h (by omega) hab hx hy hS hya
    have hPn := vq_nodup P a [] hP
    have hPa := vq_arcs P a [] hP
    obtain ⟨i1, i2, i3⟩ := vq_inn P a [] hP
    have hne : P ≠ [] := fun e => by subst e; exact hab hP
    have hin : ∀ c, c ∈ inn T P → 0 ≤ c ∧ c < (N : Int) := fun c hc => by
      obtain ⟨k, h1, h2⟩ := inn_mem P c hc
      rw [← h2]; exact hT k (hPa k h1).1 (hPa k h1).2
    have c1 : ∀ k, (P.count k : Nat) ≤ 1 := fun k => List.nodup_iff_count.mp hPn k
    have c2 : ∀ k, ((inn T P).count k : Nat) ≤ 1 := fun k => List.nodup_iff_count.mp i1 k
    have x1 : ∀ k : Int, 0 ≤ k → k < n → 0 ≤ x k - (P.count k : Nat) := fun k k0 k1 => by
      by_cases hk : k ∈ P
      · have := hPx k hk; have := c1 k; omega
      · have : P.count k = 0 := List.count_eq_zero.mpr hk
        have := hx k k0 k1; omega
    have y1 : ∀ k : Int, 0 ≤ k → k < N → 0 ≤ y k - ((inn T P).count k : Nat) := fun k k0 k1 => by
      by_cases hk : k ∈ inn T P
      · have := hPy k hk; have := c2 k; omega
      · have : (inn T P).count k = 0 := List.count_eq_zero.mpr hk
        have := hy k k0 k1; omega
    have hG : GF n N F T (fun k => x k - (P.count k : Nat)) (fun v => y v - ((inn T P).count v : Nat)) a b kp := by
      intro q
      have e0 := h q
      have e1 := vq_tele q P a [] hP hne
      have s1 : sm (fun k => (x k - (P.count k : Nat)) * (q (2 * F k + 1) - q (2 * T k))) n = sm (fun k => x k * (q (2 * F k + 1) - q (2 * T k))) n - sm (fun k => (P.count k : Nat) * (q (2 * F k + 1) - q (2 * T k))) n := by
        rw [← sm_sub]; exact sm_congr n (fun k _ _ => Int.sub_mul _ _ _)
      have s2 : sm (fun v => (y v - ((inn T P).count v : Nat)) * (q (2 * v) - q (2 * v + 1))) N = sm (fun v => y v * (q (2 * v) - q (2 * v + 1))) N - sm (fun v => ((inn T P).count v : Nat) * (q (2 * v) - q (2 * v + 1))) N := by
        rw [← sm_sub]; exact sm_congr N (fun k _ _ => Int.sub_mul _ _ _)
      rw [s1, s2, sm_cnt (g := fun k => q (2 * F k + 1) - q (2 * T k)) n P hPa, sm_cnt (g := fun c => q (2 * c) - q (2 * c + 1)) N (inn T P) hin]
      have e2 : ((kp + 1 : Nat) : Int) * (q (2 * a + 1) - q (2 * b)) = kp * (q (2 * a + 1) - q (2 * b)) + (q (2 * a + 1) - q (2 * b)) := by
        rw [show ((kp + 1 : Nat) : Int) = (kp : Int) + 1 by omega, Int.add_mul, Int.one_mul]
      rw [e2] at e0
      omega
    have hya' : y a - ((inn T P).count a : Nat) = 0 := by
      have : (inn T P).count a = 0 := List.count_eq_zero.mpr (fun hc => i3 a hc List.mem_cons_self)
      omega
    obtain ⟨Ps, p1, p2, p3, p4, p5⟩ := ih _ _ hG x1 y1 (fun k k0 k1 hk => hS k k0 k1 (by have := c1 k; omega)) hya'
    refine ⟨P :: Ps, by simp [p1], fun Q hQ => ?_, fun k k0 k1 => ?_, fun v v0 v1 => ?_, ?_⟩
    · rcases List.mem_cons.mp hQ with rfl | hQ
      · exact hP
      · exact p2 Q hQ
    · have := p3 k k0 k1; simp only [tt]; omega
    · have := p4 v v0 v1; simp only [tt]; omega
    · have s1 : sm (fun k => (x k - (P.count k : Nat)) * W k) n = sm (fun k => x k * W k) n - sm (fun k => (P.count k : Nat) * W k) n := by
        rw [← sm_sub]; exact sm_congr n (fun k _ _ => Int.sub_mul _ _ _)
      rw [s1, sm_cnt n P hPa] at p5
      simp only [tt]; omega
/-- no arc in common -/
def da (P Q : List Int) : Prop := ∀ k, k ∈ P → k ∉ Q
/-- apart: by = 0 by arcs, else by nodes too -/
def ap (T : Int → Int) (by_ : Int) (P Q : List Int) : Prop := da P Q ∧ (by_ = 1 → da (inn T P) (inn T Q))
theorem da_sym {P Q : List Int} (h : da P Q) : da Q P := fun k h1 h2 => h k h2 h1
theorem ap_sym {T : Int → Int} {by_ : Int} {P Q : List Int} (h : ap T by_ P Q) : ap T by_ Q P := ⟨da_sym h.1, fun e => da_sym (h.2 e)⟩
theorem tt_da {f : List Int → List Int} : ∀ (Ps : List (List Int)), (∀ k, tt (fun P => ((f P).count k : Nat)) Ps ≤ 1) → Ps.Pairwise (fun P Q => da (f P) (f Q)) := by
  intro Ps
  induction Ps with
  | nil => intro _; exact List.Pairwise.nil
  | cons P Ps ih =>
    intro h
    have nn : ∀ k, ∀ P : List Int, (0 : Int) ≤ ((f P).count k : Nat) := fun k P => by omega
    refine List.Pairwise.cons (fun Q hQ k hk hq => ?_) (ih (fun k => ?_))
    · have h1 := h k
      simp only [tt] at h1
      have h2 := tt_mem (f := fun P => ((f P).count k : Nat)) (nn k) Ps Q hQ
      have h3 : 0 < (f P).count k := List.count_pos_iff.mpr hk
      have h4 : 0 < (f Q).count k := List.count_pos_iff.mpr hq
      omega
    · have h1 := h k
      simp only [tt] at h1
      have := nn k P
      omega
/-- paths make a flow -/
theorem gf_join {n N : Nat} {F T Sh : Int → Int} {a b : Int} (hab : a ≠ b) (hT : ∀ k : Int, 0 ≤ k → k < n → 0 ≤ T k ∧ T k < N) : ∀ (Ps : List (List Int)), (∀ P, P ∈ Ps → vq n F T Sh b a [] P) → GF n N F T (fun k => tt (fun P => (P.count k : Nat)) Ps) (fun v => tt (fun P => ((inn T P).count v : Nat)) Ps) a b Ps.length := by
  intro Ps
  induction Ps with
  | nil =>
    intro _ q
    have e1 : sm (fun k => tt (fun P => (P.count k : Nat)) [] * (q (2 * F k + 1) - q (2 * T k))) n = 0 := by
      rw [← sm_zero n]; exact sm_congr n (fun _ _ _ => by simp [tt])
    have e2 : sm (fun v => tt (fun P => ((inn T P).count v : Nat)) [] * (q (2 * v) - q (2 * v + 1))) N = 0 := by
      rw [← sm_zero N]; exact sm_congr N (fun _ _ _ => by simp [tt])
    rw [e1, e2]
    simp
  | cons P Ps ih =>
    intro h q
    have h1 : sm (fun k => tt (fun P => (P.count k : Nat)) Ps * (q (2 * F k + 1) - q (2 * T k))) n + sm (fun v => tt (fun P => ((inn T P).count v : Nat)) Ps * (q (2 * v) - q (2 * v + 1))) N = Ps.length * (q (2 * a + 1) - q (2 * b)) := ih (fun Q hQ => h Q (List.mem_cons_of_mem _ hQ)) q
    have hP := h P List.mem_cons_self
    have hPa := vq_arcs P a [] hP
    have hne : P ≠ [] := fun e => by subst e; exact hab hP
    have hin : ∀ c, c ∈ inn T P → 0 ≤ c ∧ c < (N : Int) := fun c hc => by
      obtain ⟨k, h1, h2⟩ := inn_mem P c hc
      rw [← h2]; exact hT k (hPa k h1).1 (hPa k h1).2
    have e1 := vq_tele q P a [] hP hne
    have s1 : sm (fun k => tt (fun P => (P.count k : Nat)) (P :: Ps) * (q (2 * F k + 1) - q (2 * T k))) n = sm (fun k => (P.count k : Nat) * (q (2 * F k + 1) - q (2 * T k))) n + sm (fun k => tt (fun P => (P.count k : Nat)) Ps * (q (2 * F k + 1) - q (2 * T k))) n := by
      rw [← sm_add]; exact sm_congr n (fun k _ _ => Int.add_mul _ _ _)
    have s2 : sm (fun v => tt (fun P => ((inn T P).count v : Nat)) (P :: Ps) * (q (2 * v) - q (2 * v + 1))) N = sm (fun v => ((inn T P).count v : Nat) * (q (2 * v) - q (2 * v + 1))) N + sm (fun v => tt (fun P => ((inn T P).count v : Nat)) Ps * (q (2 * v) - q (2 * v + 1))) N := by
      rw [← sm_add]; exact sm_congr N (fun k _ _ => Int.add_mul _ _ _)
    rw [s1, s2, sm_cnt (g := fun k => q (2 * F k + 1) - q (2 * T k)) n P hPa, sm_cnt (g := fun c => q (2 * c) - q (2 * c + 1)) N (inn T P) hin]
    have e2 : (((P :: Ps).length : Nat) : Int) * (q (2 * a + 1) - q (2 * b)) = Ps.length * (q (2 * a + 1) - q (2 * b)) + (q (2 * a + 1) - q (2 * b)) := by
      rw [show (((P :: Ps).length : Nat) : Int) = (Ps.length : Int) + 1 by simp, Int.add_mul, Int.one_mul]
    generalize (((P :: Ps).length : Nat) : Int) * (q (2 * a + 1) - q (2 * b)) = z1 at *
    generalize (Ps.length : Int) * (q (2 * a + 1) - q (2 * b)) = z2 at *
    omega
theorem tt_wp {n : Nat} {W : Int → Int} : ∀ (Ps : List (List Int)), (∀ P, P ∈ Ps → ∀ k, k ∈ P → 0 ≤ k ∧ k < n) → sm (fun k => tt (fun P => (P.count k : Nat)) Ps * W k) n = tt (wp W) Ps := by
  intro Ps
  induction Ps with
  | nil => intro _; rw [sm_congr (g := fun _ => 0) n (fun _ _ _ => by simp [tt]), sm_zero]; rfl
  | cons P Ps ih =>
    intro h
    have s1 : sm (fun k => tt (fun P => (P.count k : Nat)) (P :: Ps) * W k) n = sm (fun k => (P.count k : Nat) * W k) n + sm (fun k => tt (fun P => (P.count k : Nat)) Ps * W k) n := by
      rw [← sm_add]; exact sm_congr n (fun k _ _ => Int.add_mul _ _ _)
    rw [s1, sm_cnt n P (h P List.mem_cons_self), ih (fun Q hQ => h Q (List.mem_cons_of_mem _ hQ))]
    simp only [tt]
