/-! cuts of a graph: by arcs and by nodes -/
/-- how many arcs go out of the nodes of m -/
def ou (n : Nat) (F T Sh : Int → Int) (m : Int → Bool) : Int := sm (fun k => if Sh k = 0 ∧ m (F k) = true ∧ m (T k) = false then 1 else 0) n
def ua (Sh : Int → Int) (k : Int) : Int := if Sh k = 0 then 1 else 0
def zn (a b c : Int) (v : Int) : Int := if v = a ∨ v = b then 0 else c
theorem ou_le {n : Nat} {F T Sh : Int → Int} {m : Int → Bool} : ou n F T Sh m ≤ n := by
  unfold ou
  have := sm_le (f := fun k => if Sh k = 0 ∧ m (F k) = true ∧ m (T k) = false then 1 else 0) (g := fun _ => 1) n (fun k _ _ => by
    show (if Sh k = 0 ∧ m (F k) = true ∧ m (T k) = false then (1 : Int) else 0) ≤ 1
    split <;> omega)
  have h1 : ∀ n : Nat, sm (fun _ => 1) n = n := by
    intro n
    induction n with
    | zero => rfl
    | succ n ih => simp only [sm]; omega
  rw [h1] at this
  exact this
theorem lv2_v {R : Int → Bool} {q r c : Int} {x y : Bool} (hx : R q = x) (hy : R r = y) : lv2 R q r c = if x = true ∧ y = false then c else 0 := by
  subst hx; subst hy; rfl
theorem cut0_le {n N : Nat} {F T Sh x y : Int → Int} {a b kp c : Int} (h : GF n N F T x y a b kp) (hx : bn n x (ua Sh)) (hy : bn N y (zn a b c)) {m : Int → Bool} (ha : m a = true) (hb : m b = false) : kp ≤ ou n F T Sh m := by
  have r0 : ∀ v, (fun q : Int => m (q / 2)) (2 * v) = m v := fun v => by
    show m (2 * v / 2) = m v
    rw [show 2 * v / 2 = v by omega]
  have r1 : ∀ v, (fun q : Int => m (q / 2)) (2 * v + 1) = m v := fun v => by
    show m ((2 * v + 1) / 2) = m v
    rw [show (2 * v + 1) / 2 = v by omega]
  have h1 := gf_cut (R := fun q => m (q / 2)) h hx hy ((r1 a).trans ha) ((r0 b).trans hb)
  have e1 : sm (fun v => lv2 (fun q => m (q / 2)) (2 * v) (2 * v + 1) (zn a b c v)) N = 0 := by
    rw [← sm_zero N]
    refine sm_congr N (fun v _ _ => ?_)
    rw [lv2_v (R := fun q => m (q / 2)) (q := 2 * v) (r := 2 * v + 1) (r0 v) (r1 v)]
    cases m v <;> simp
  have e2 : sm (fun k => lv2 (fun q => m (q / 2)) (2 * F k + 1) (2 * T k) (ua Sh k)) n = ou n F T Sh m := by
    unfold ou
    refine sm_congr n (fun k _ _ => ?_)
    rw [lv2_v (R := fun q => m (q / 2)) (q := 2 * F k + 1) (r := 2 * T k) (r1 (F k)) (r0 (T k))]
    unfold ua
    by_cases c1 : Sh k = 0
    · simp [c1]
    · simp [c1]
  omega
/-- R: a set of places that no flow can leave any more -/
def shutR (n N : Nat) (F T x y u z : Int → Int) (R : Int → Bool) : Prop :=
  (∀ k : Int, 0 ≤ k → k < n → (R (2 * F k + 1) = true → R (2 * T k) = false → x k = u k) ∧ (R (2 * F k + 1) = false → R (2 * T k) = true → x k = 0)) ∧
  (∀ v : Int, 0 ≤ v → v < N → (R (2 * v) = true → R (2 * v + 1) = false → y v = z v) ∧ (R (2 * v) = false → R (2 * v + 1) = true → y v = 0))
theorem lv2_nn {R : Int → Bool} {q r c : Int} (h : 0 ≤ c) : 0 ≤ lv2 R q r c := by
  unfold lv2
  split <;> omega
theorem cut0_ge {n N : Nat} {F T Sh x y : Int → Int} {a b kp c : Int} (hab : a ≠ b) (hn : (n : Int) ≤ c) (hT : ∀ k : Int, 0 ≤ k → k < n → 0 ≤ T k ∧ T k < N) (h : GF n N F T x y a b kp) {R : Int → Bool} (hR : shutR n N F T x y (ua Sh) (zn a b c) R) (hs : R (2 * a + 1) = true) (hg : R (2 * b) = false) :
    ∃ m : Int → Bool, m a = true ∧ m b = false ∧ ou n F T Sh m ≤ kp := by
  have e := gf_cutE h hs hg hR.1 hR.2
  have hc : ∀ v, 0 ≤ zn a b c v := fun v => by unfold zn; split <;> omega
  have hu : ∀ k, 0 ≤ ua Sh k := fun v => by unfold ua; split <;> omega
  have n1 := sm_nn (f := fun k => lv2 R (2 * F k + 1) (2 * T k) (ua Sh k)) n (fun k _ _ => lv2_nn (hu k))
  have n2 := sm_nn (f := fun v => lv2 R (2 * v) (2 * v + 1) (zn a b c v)) N (fun k _ _ => lv2_nn (hc k))
  refine ⟨fun v => !(decide (v = b)) && R (2 * v + 1), by simp [hab, hs], by simp, ?_⟩
  by_cases q : ∃ v : Int, 0 ≤ v ∧ v < N ∧ v ≠ a ∧ v ≠ b ∧ R (2 * v) = true ∧ R (2 * v + 1) = false
  · obtain ⟨v, v0, v1, va, vb, r1, r2⟩ := q
    have h1 := sm_part (f := fun v => lv2 R (2 * v) (2 * v + 1) (zn a b c v)) N (fun k _ _ => lv2_nn (hc k)) v0 v1
    have h2 : lv2 R (2 * v) (2 * v + 1) (zn a b c v) = c := by simp [lv2, zn, r1, r2, va, vb]
    have := ou_le (n := n) (F := F) (T := T) (Sh := Sh) (m := fun v => !(decide (v = b)) && R (2 * v + 1))
    omega
  · have h1 : ou n F T Sh (fun v => !(decide (v = b)) && R (2 * v + 1)) ≤ sm (fun k => lv2 R (2 * F k + 1) (2 * T k) (ua Sh k)) n := by
      unfold ou
      refine sm_le n (fun k k0 k1 => ?_)
      show (if Sh k = 0 ∧ (!(decide (F k = b)) && R (2 * F k + 1)) = true ∧ (!(decide (T k = b)) && R (2 * T k + 1)) = false then (1 : Int) else 0) ≤ lv2 R (2 * F k + 1) (2 * T k) (ua Sh k)
      split
      · next hc2 =>
        obtain ⟨c1, c2, c3⟩ := hc2
        have f1 : R (2 * F k + 1) = true := by
          simp only [Bool.and_eq_true] at c2; exact c2.2
        have f2 : R (2 * T k) = false := by
          by_cases tb : T k = b
          · rw [tb]; exact hg
          · cases r : R (2 * T k) with
            | false => rfl
            | true =>
              have r2 : R (2 * T k + 1) = false := by simpa [tb] using c3
              by_cases ta : T k = a
              · rw [ta, hs] at r2; cases r2
              · exact absurd ⟨T k, (hT k k0 k1).1, (hT k k0 k1).2, ta, tb, r, r2⟩ q
        simp [lv2, f1, f2, ua, c1]
      · exact lv2_nn (hu k)
    omega
/-! by nodes -/
/-- how many arcs go from a to b at once -/
def di (n : Nat) (F T Sh : Int → Int) (a b : Int) : Int := sm (fun k => if Sh k = 0 ∧ F k = a ∧ T k = b then 1 else 0) n
def mn (N : Nat) (m : Int → Bool) : Int := sm (fun v => if m v = true then 1 else 0) N
/-- g: what is come to from a without the nodes of m, and without the arcs from a to b -/
def clo (n : Nat) (F T Sh : Int → Int) (a b : Int) (m g : Int → Bool) : Prop := g a = true ∧ g b = false ∧ ∀ k : Int, 0 ≤ k → k < n → Sh k = 0 → g (F k) = true → m (T k) = false → ¬ (F k = a ∧ T k = b) → g (T k) = true
theorem cut1_le {n N : Nat} {F T Sh x y : Int → Int} {a b kp : Int} (h : GF n N F T x y a b kp) (hx : bn n x (ua Sh)) (hy : bn N y (zn a b 1)) {m g : Int → Bool} (hg : clo n F T Sh a b m g) (hb : m b = false) : kp ≤ di n F T Sh a b + mn N m := by
  obtain ⟨g1, g2, g3⟩ := hg
  have r0 : ∀ v, (fun q : Int => g (q / 2) || (decide (q % 2 = 0) && m (q / 2))) (2 * v) = (g v || m v) := fun v => by
    show (g (2 * v / 2) || (decide (2 * v % 2 = 0) && m (2 * v / 2))) = (g v || m v)
    rw [show 2 * v / 2 = v by omega, show 2 * v % 2 = 0 by omega]
    simp
  have r1 : ∀ v, (fun q : Int => g (q / 2) || (decide (q % 2 = 0) && m (q / 2))) (2 * v + 1) = g v := fun v => by
    show (g ((2 * v + 1) / 2) || (decide ((2 * v + 1) % 2 = 0) && m ((2 * v + 1) / 2))) = g v
    rw [show (2 * v + 1) / 2 = v by omega, show (2 * v + 1) % 2 = 1 by omega]
    simp
  have h1 := gf_cut (R := fun q => g (q / 2) || (decide (q % 2 = 0) && m (q / 2))) h hx hy ((r1 a).trans g1) ((r0 b).trans (by rw [g2, hb]; rfl))
  have e1 : sm (fun v => lv2 (fun q => g (q / 2) || (decide (q % 2 = 0) && m (q / 2))) (2 * v) (2 * v + 1) (zn a b 1 v)) N ≤ mn N m := by
    unfold mn
    refine sm_le N (fun v _ _ => ?_)
    rw [lv2_v (R := fun q => g (q / 2) || (decide (q % 2 = 0) && m (q / 2))) (q := 2 * v) (r := 2 * v + 1) (r0 v) (r1 v)]
    have hz : zn a b 1 v ≤ 1 := by unfold zn; split <;> omega
    cases m v <;> cases g v <;> simp <;> omega
  have e2 : sm (fun k => lv2 (fun q => g (q / 2) || (decide (q % 2 = 0) && m (q / 2))) (2 * F k + 1) (2 * T k) (ua Sh k)) n ≤ di n F T Sh a b := by
    unfold di
    refine sm_le n (fun k k0 k1 => ?_)
    rw [lv2_v (R := fun q => g (q / 2) || (decide (q % 2 = 0) && m (q / 2))) (q := 2 * F k + 1) (r := 2 * T k) (r1 (F k)) (r0 (T k))]
    by_cases c1 : Sh k = 0
    · by_cases c2 : F k = a ∧ T k = b
      · have hy : Sh k = 0 ∧ F k = a ∧ T k = b := ⟨c1, c2.1, c2.2⟩
        have : ua Sh k = 1 := by simp [ua, c1]
        rw [if_pos hy, this]
        split <;> omega
      · have hn : ¬ (Sh k = 0 ∧ F k = a ∧ T k = b) := fun q => c2 q.2
        rw [if_neg hn, if_neg]
        · exact Int.le_refl _
        · intro hc
          obtain ⟨d1, d2⟩ := hc
          have d3 : g (T k) = false ∧ m (T k) = false := by simpa using d2
          have := g3 k k0 k1 c1 d1 d3.2 c2
          rw [d3.1] at this
          cases this
    · have : ua Sh k = 0 := by simp [ua, c1]
      rw [this]
      split <;> split <;> omega
  omega
noncomputable def cb (p : Prop) : Bool := @decide p (Classical.propDecidable p)
theorem cb_t {p : Prop} : cb p = true ↔ p := @decide_eq_true_iff p (Classical.propDecidable p)
/-- each of the arcs of c has an owner: there are no more owners than arcs -/
theorem own_le {N : Nat} {c : Int → Bool} {o : Int → Int} : ∀ n : Nat, sm (fun v => if cb (∃ k : Int, 0 ≤ k ∧ k < n ∧ c k = true ∧ o k = v) = true then 1 else 0) N ≤ sm (fun k => if c k = true then 1 else 0) n := by
  intro n
  induction n with
  | zero =>
    refine Int.le_trans (sm_le (g := fun _ => 0) N (fun v _ _ => ?_)) (Int.le_of_eq (sm_zero N))
    by_cases q : cb (∃ k : Int, 0 ≤ k ∧ k < (0 : Nat) ∧ c k = true ∧ o k = v) = true
    · obtain ⟨k, k0, k1, -⟩ := cb_t.mp q
      omega
    · simp only [if_neg q]; exact Int.le_refl _
  | succ n ih =>
    have h1 : sm (fun v => if cb (∃ k : Int, 0 ≤ k ∧ k < (n + 1 : Nat) ∧ c k = true ∧ o k = v) = true then 1 else 0) N ≤ sm (fun v => (if cb (∃ k : Int, 0 ≤ k ∧ k < n ∧ c k = true ∧ o k = v) = true then 1 else 0) + (if o n = v then (if c n = true then 1 else 0) else 0)) N := by
      refine sm_le N (fun v _ _ => ?_)
      by_cases q : ∃ k : Int, 0 ≤ k ∧ k < (n + 1 : Nat) ∧ c k = true ∧ o k = v
      · obtain ⟨k, k0, k1, k2, k3⟩ := q
        by_cases e : k = n
        · subst e
          simp only [if_pos k3, if_pos k2]
          split <;> split <;> omega
        · have : cb (∃ k : Int, 0 ≤ k ∧ k < n ∧ c k = true ∧ o k = v) = true := cb_t.mpr ⟨k, k0, by omega, k2, k3⟩
          simp only [if_pos this]
          split <;> split <;> (try split) <;> omega
      · have : ¬ cb (∃ k : Int, 0 ≤ k ∧ k < (n + 1 : Nat) ∧ c k = true ∧ o k = v) = true := fun h => q (cb_t.mp h)
        simp only [if_neg this]
        split <;> split <;> (try split) <;> omega
    rw [sm_add] at h1
    have h2 : sm (fun v => if o n = v then (if c n = true then 1 else 0) else 0) N ≤ if c n = true then 1 else 0 := by
      by_cases r : 0 ≤ o n ∧ o n < N
      · rw [sm_pick (g := fun _ => if c n = true then 1 else 0) N r.1 r.2]
        exact Int.le_refl _
      · have : sm (fun v => if o n = v then (if c n = true then 1 else 0) else 0) N = 0 := by
          rw [sm_congr (g := fun _ => 0) N (fun v v0 v1 => by
            show (if o n = v then (if c n = true then 1 else 0) else 0) = 0
            rw [if_neg (fun e => r (by omega))]), sm_zero]
        rw [this]
        split <;> omega
    simp only [sm]
    omega
theorem cut1_ge {n N : Nat} {F T Sh x y : Int → Int} {a b kp : Int} (hab : a ≠ b) (hT : ∀ k : Int, 0 ≤ k → k < n → 0 ≤ F k ∧ F k < N ∧ 0 ≤ T k ∧ T k < N) (h : GF n N F T x y a b kp) {R : Int → Bool} (hR : shutR n N F T x y (ua Sh) (zn a b 1) R) (hs : R (2 * a + 1) = true) (hg : R (2 * b) = false) :
    ∃ m g : Int → Bool, m a = false ∧ m b = false ∧ clo n F T Sh a b m g ∧ di n F T Sh a b + mn N m ≤ kp := by
  have e := gf_cutE h hs hg hR.1 hR.2
  -- the arcs that leave R, but those from a to b; and who owns each
  let cr : Int → Bool := fun k => decide (Sh k = 0) && R (2 * F k + 1) && !(R (2 * T k)) && !(decide (F k = a ∧ T k = b))
  let ow : Int → Int := fun k => if T k = b then F k else T k
  let X : Int → Bool := fun v => R (2 * v) && !(R (2 * v + 1))
  let Y : Int → Bool := fun v => cb (∃ k : Int, 0 ≤ k ∧ k < n ∧ cr k = true ∧ ow k = v)
  let m : Int → Bool := fun v => !(decide (v = a)) && !(decide (v = b)) && (X v || Y v)
  let g : Int → Bool := fun v => !(decide (v = b)) && R (2 * v + 1) && (decide (v = a) || !(m v))
  have hma : m a = false := by simp [m]
  have hmb : m b = false := by simp [m]
  refine ⟨m, g, hma, hmb, ⟨by simp [g, hab, hs], by simp [g], ?_⟩, ?_⟩
  · intro k k0 k1 c1 c2 c3 c4
    have c2' : (F k ≠ b ∧ R (2 * F k + 1) = true) ∧ (F k = a ∨ m (F k) = false) := by
      simpa [g] using c2
    obtain ⟨⟨f0, f1⟩, f2⟩ := c2'
    have hcr : R (2 * T k) = false → cr k = true := by
      intro r
      have : ¬ (F k = a ∧ T k = b) := c4
      simp [cr, c1, f1, r]
      omega
    by_cases tb : T k = b
    · exfalso
      have r : R (2 * T k) = false := by rw [tb]; exact hg
      have fa : F k ≠ a := fun q => c4 ⟨q, tb⟩
      have hy : Y (F k) = true := cb_t.mpr ⟨k, k0, k1, hcr r, by simp [ow, tb]⟩
      have hm : m (F k) = true := by simp [m, fa, f0, hy]
      rcases f2 with f2 | f2
      · exact fa f2
      · rw [f2] at hm; cases hm
    · by_cases ta : T k = a
      · simp [g, ta, hab, hs]
      · have hY : R (2 * T k) = true := by
          cases r : R (2 * T k) with
          | true => rfl
          | false =>
            exfalso
            have hy : Y (T k) = true := cb_t.mpr ⟨k, k0, k1, hcr r, by simp [ow, tb]⟩
            have hm : m (T k) = true := by simp [m, ta, tb, hy]
            rw [c3] at hm; cases hm
        have hX : R (2 * T k + 1) = true := by
          cases r : R (2 * T k + 1) with
          | true => rfl
          | false =>
            exfalso
            have hx : X (T k) = true := by simp [X, hY, r]
            have hm : m (T k) = true := by simp [m, ta, tb, hx]
            rw [c3] at hm; cases hm
        show (!(decide (T k = b)) && R (2 * T k + 1) && (decide (T k = a) || !(m (T k)))) = true
        simp [tb, hX, c3]
  · have i1 : mn N m ≤ sm (fun v => lv2 R (2 * v) (2 * v + 1) (zn a b 1 v) + (if Y v = true then 1 else 0)) N := by
      unfold mn
      refine sm_le N (fun v _ _ => ?_)
      show (if m v = true then (1 : Int) else 0) ≤ lv2 R (2 * v) (2 * v + 1) (zn a b 1 v) + (if Y v = true then 1 else 0)
      have hz := lv2_nn (R := R) (q := 2 * v) (r := 2 * v + 1) (c := zn a b 1 v) (by unfold zn; split <;> omega)
      by_cases hm : m v = true
      · rw [if_pos hm]
        have hm' : (v ≠ a ∧ v ≠ b) ∧ (X v = true ∨ Y v = true) := by simpa [m] using hm
        obtain ⟨⟨va, vb⟩, hx | hy⟩ := hm'
        · have hx' : R (2 * v) = true ∧ R (2 * v + 1) = false := by simpa [X] using hx
          have : lv2 R (2 * v) (2 * v + 1) (zn a b 1 v) = 1 := by simp [lv2, zn, hx'.1, hx'.2, va, vb]
          split <;> omega
        · rw [if_pos hy]; omega
      · rw [if_neg hm]; split <;> omega
    rw [sm_add] at i1
    have i2 : sm (fun v => if Y v = true then 1 else 0) N ≤ sm (fun k => if cr k = true then 1 else 0) n := own_le n
    have i3 : sm (fun k => if cr k = true then 1 else 0) n + di n F T Sh a b ≤ sm (fun k => lv2 R (2 * F k + 1) (2 * T k) (ua Sh k)) n := by
      unfold di
      rw [← sm_add]
      refine sm_le n (fun k _ _ => ?_)
      show (if cr k = true then (1 : Int) else 0) + (if Sh k = 0 ∧ F k = a ∧ T k = b then 1 else 0) ≤ lv2 R (2 * F k + 1) (2 * T k) (ua Sh k)
      have hz := lv2_nn (R := R) (q := 2 * F k + 1) (r := 2 * T k) (c := ua Sh k) (by unfold ua; split <;> omega)
      by_cases hd : Sh k = 0 ∧ F k = a ∧ T k = b
      · have hc : ¬ cr k = true := by simp [cr, hd.2.1, hd.2.2]
        rw [if_neg hc, if_pos hd]
        have : lv2 R (2 * F k + 1) (2 * T k) (ua Sh k) = 1 := by rw [hd.2.1, hd.2.2]; simp [lv2, ua, hs, hg, hd.1]
        omega
      · rw [if_neg hd]
        by_cases hc : cr k = true
        · have hc' : ((Sh k = 0 ∧ R (2 * F k + 1) = true) ∧ R (2 * T k) = false) ∧ (¬ F k = a ∨ ¬ T k = b) := by simpa [cr] using hc
          rw [if_pos hc]
          have : lv2 R (2 * F k + 1) (2 * T k) (ua Sh k) = 1 := by simp [lv2, ua, hc'.1.1.1, hc'.1.1.2, hc'.1.2]
          omega
        · rw [if_neg hc]; omega
    omega
