/-! the edges that are made of a graph, and its flow read off them -/
/-- how many of the first n arcs are not shut; how many of the first m nodes are neither a nor b -/
def oa (Sh : Int → Int) : Nat → Nat
  | 0 => 0
  | n + 1 => oa Sh n + (if Sh n = 0 then 1 else 0)
def nv (a b : Int) : Nat → Nat
  | 0 => 0
  | m + 1 => nv a b m + (if (m : Int) = a ∨ (m : Int) = b then 0 else 1)
theorem sm_opn {Sh G : Int → Int} : ∀ n : Nat, sm G (oa Sh n) = sm (fun k => if Sh k = 0 then G (oa Sh k.toNat : Nat) else 0) n
  | 0 => rfl
  | n + 1 => by
    simp only [sm, oa]
    rw [← sm_opn n]
    by_cases c : Sh n = 0
    · rw [if_pos c, if_pos c]
      simp only [sm, Int.toNat_natCast]
    · rw [if_neg c, if_neg c]
      simp
theorem sm_node {a b : Int} {G : Int → Int} (c0 : Nat) : ∀ m : Nat, sm G (c0 + nv a b m) = sm G c0 + sm (fun v => if v = a ∨ v = b then 0 else G (c0 + nv a b v.toNat : Nat)) m
  | 0 => by simp [sm, nv]
  | m + 1 => by
    simp only [sm, nv]
    by_cases c : (m : Int) = a ∨ (m : Int) = b
    · rw [if_pos c, if_pos c, Nat.add_zero, sm_node c0 m]
      omega
    · rw [if_neg c, if_neg c]
      rw [show c0 + (nv a b m + 1) = (c0 + nv a b m) + 1 from rfl]
      simp only [sm]
      rw [sm_node c0 m]
      simp only [Int.toNat_natCast]
      omega
theorem oa_mono {Sh : Int → Int} : ∀ {i j : Nat}, i ≤ j → oa Sh i ≤ oa Sh j := by
  intro i j h
  induction h with
  | refl => exact Nat.le_refl _
  | step _ ih => simp only [oa]; split <;> omega
theorem oa_lt {Sh : Int → Int} {i j : Nat} (h : i < j) (hs : Sh i = 0) : oa Sh i < oa Sh j := by
  have := oa_mono (Sh := Sh) (show i + 1 ≤ j from h)
  simp only [oa] at this
  rw [if_pos hs] at this
  omega
theorem oa_le {Sh : Int → Int} : ∀ n : Nat, oa Sh n ≤ n
  | 0 => Nat.le_refl _
  | n + 1 => by have := oa_le (Sh := Sh) n; simp only [oa]; split <;> omega
theorem nv_mono {a b : Int} : ∀ {i j : Nat}, i ≤ j → nv a b i ≤ nv a b j := by
  intro i j h
  induction h with
  | refl => exact Nat.le_refl _
  | step _ ih => simp only [nv]; split <;> omega
theorem nv_lt {a b : Int} {i j : Nat} (h : i < j) (hs : ¬ ((i : Int) = a ∨ (i : Int) = b)) : nv a b i < nv a b j := by
  have := nv_mono (a := a) (b := b) (show i + 1 ≤ j from h)
  simp only [nv] at this
  rw [if_neg hs] at this
  omega
theorem nv_le {a b : Int} : ∀ n : Nat, nv a b n ≤ n
  | 0 => Nat.le_refl _
  | n + 1 => by have := nv_le (a := a) (b := b) n; simp only [nv]; split <;> omega
/-- the edges as they are made: M pairs -/
def NE (n N : Nat) (F T W Sh : Int → Int) (a b : Int) (et eh ec : Int → Int) : Prop :=
  (∀ k : Int, 0 ≤ k → k < n → Sh k = 0 → et (2 * (oa Sh k.toNat : Nat)) = 2 * F k + 1 ∧ eh (2 * (oa Sh k.toNat : Nat)) = 2 * T k ∧ ec (2 * (oa Sh k.toNat : Nat)) = W k) ∧
  (∀ v : Int, 0 ≤ v → v < N → v ≠ a → v ≠ b → et (2 * (oa Sh n + nv a b v.toNat : Nat)) = 2 * v ∧ eh (2 * (oa Sh n + nv a b v.toNat : Nat)) = 2 * v + 1 ∧ ec (2 * (oa Sh n + nv a b v.toNat : Nat)) = 0) ∧
  pa (oa Sh n + nv a b N) et eh ec
/-- their rooms together -/
def CA (n N : Nat) (Sh : Int → Int) (a b c : Int) (er : Int → Int) : Prop :=
  (∀ k : Int, 0 ≤ k → k < n → Sh k = 0 → er (2 * (oa Sh k.toNat : Nat)) + er (2 * (oa Sh k.toNat : Nat) + 1) = 1) ∧
  (∀ v : Int, 0 ≤ v → v < N → v ≠ a → v ≠ b → er (2 * (oa Sh n + nv a b v.toNat : Nat)) + er (2 * (oa Sh n + nv a b v.toNat : Nat) + 1) = c)
def fx (Sh er : Int → Int) (k : Int) : Int := if Sh k = 0 then er (2 * (oa Sh k.toNat : Nat) + 1) else 0
def fy (n : Nat) (Sh : Int → Int) (a b : Int) (er : Int → Int) (v : Int) : Int := if v = a ∨ v = b then 0 else er (2 * (oa Sh n + nv a b v.toNat : Nat) + 1)
section NET
variable {n N : Nat} {F T W Sh : Int → Int} {a b c : Int} {et eh ec er : Int → Int}
theorem ne_gs (h : NE n N F T W Sh a b et eh ec) (q : Int → Int) : gs (oa Sh n + nv a b N) er (fun e => q (et e) - q (eh e)) = sm (fun k => fx Sh er k * (q (2 * F k + 1) - q (2 * T k))) n + sm (fun v => fy n Sh a b er v * (q (2 * v) - q (2 * v + 1))) N := by
  unfold gs
  rw [sm_node, sm_opn]
  congr 1
  · refine sm_congr n (fun k k0 k1 => ?_)
    unfold fx
    by_cases s0 : Sh k = 0
    · rw [if_pos s0, if_pos s0]
      obtain ⟨h1, h2, -⟩ := h.1 k k0 k1 s0
      show er (2 * (oa Sh k.toNat : Nat) + 1) * (q (et (2 * (oa Sh k.toNat : Nat))) - q (eh (2 * (oa Sh k.toNat : Nat)))) = _
      rw [h1, h2]
    · rw [if_neg s0, if_neg s0, Int.zero_mul]
  · refine sm_congr N (fun v v0 v1 => ?_)
    unfold fy
    by_cases s0 : v = a ∨ v = b
    · rw [if_pos s0, if_pos s0, Int.zero_mul]
    · rw [if_neg s0, if_neg s0]
      obtain ⟨h1, h2, -⟩ := h.2.1 v v0 v1 (fun z => s0 (Or.inl z)) (fun z => s0 (Or.inr z))
      show er (2 * (oa Sh n + nv a b v.toNat : Nat) + 1) * (q (et (2 * (oa Sh n + nv a b v.toNat : Nat))) - q (eh (2 * (oa Sh n + nv a b v.toNat : Nat)))) = _
      rw [h1, h2]
theorem ne_cs (h : NE n N F T W Sh a b et eh ec) : gs (oa Sh n + nv a b N) er ec = sm (fun k => fx Sh er k * W k) n := by
  unfold gs
  rw [sm_node, sm_opn]
  have e2 : sm (fun v => if v = a ∨ v = b then 0 else er (2 * (oa Sh n + nv a b v.toNat : Nat) + 1) * ec (2 * (oa Sh n + nv a b v.toNat : Nat))) N = 0 := by
    refine Eq.trans (sm_congr (g := fun _ => 0) N (fun v v0 v1 => ?_)) (sm_zero N)
    by_cases s0 : v = a ∨ v = b
    · rw [if_pos s0]
    · rw [if_neg s0]
      obtain ⟨-, -, h3⟩ := h.2.1 v v0 v1 (fun z => s0 (Or.inl z)) (fun z => s0 (Or.inr z))
      rw [h3, Int.mul_zero]
  rw [e2, Int.add_zero]
  refine sm_congr n (fun k k0 k1 => ?_)
  unfold fx
  by_cases s0 : Sh k = 0
  · rw [if_pos s0, if_pos s0]
    obtain ⟨-, -, h3⟩ := h.1 k k0 k1 s0
    rw [h3]
  · rw [if_neg s0, if_neg s0, Int.zero_mul]
theorem ne_gf (h : NE n N F T W Sh a b et eh ec) {kp : Int} (hf : ∀ q : Int → Int, gs (oa Sh n + nv a b N) er (fun e => q (et e) - q (eh e)) = kp * (q (2 * a + 1) - q (2 * b))) : GF n N F T (fx Sh er) (fy n Sh a b er) a b kp := fun q => by
  rw [← ne_gs h q]
  exact hf q
theorem ja_in {k : Int} (k0 : 0 ≤ k) (k1 : k < n) (hs : Sh k = 0) : (oa Sh k.toNat : Int) < (oa Sh n + nv a b N : Nat) := by
  have := oa_lt (Sh := Sh) (i := k.toNat) (j := n) (by omega) (by rw [Int.toNat_of_nonneg k0]; exact hs)
  omega
theorem jn_in {v : Int} (v0 : 0 ≤ v) (v1 : v < N) (va : v ≠ a) (vb : v ≠ b) : ((oa Sh n + nv a b v.toNat : Nat) : Int) < (oa Sh n + nv a b N : Nat) := by
  have := nv_lt (a := a) (b := b) (i := v.toNat) (j := N) (by omega) (by rw [Int.toNat_of_nonneg v0]; exact fun z => z.elim va vb)
  omega
theorem ne_bx (hr : ∀ e : Int, 0 ≤ e → e < (2 * (oa Sh n + nv a b N) : Nat) → 0 ≤ er e) (hc : CA n N Sh a b c er) : bn n (fx Sh er) (ua Sh) := fun k k0 k1 => by
  unfold fx ua
  by_cases s0 : Sh k = 0
  · rw [if_pos s0, if_pos s0]
    have h1 := hc.1 k k0 k1 s0
    have h2 := ja_in (a := a) (b := b) (N := N) k0 k1 s0
    have h3 := hr (2 * (oa Sh k.toNat : Nat)) (by omega) (by omega)
    have h4 := hr (2 * (oa Sh k.toNat : Nat) + 1) (by omega) (by omega)
    omega
  · rw [if_neg s0, if_neg s0]; omega
theorem ne_by (hr : ∀ e : Int, 0 ≤ e → e < (2 * (oa Sh n + nv a b N) : Nat) → 0 ≤ er e) (hc : CA n N Sh a b c er) : bn N (fy n Sh a b er) (zn a b c) := fun v v0 v1 => by
  unfold fy zn
  by_cases s0 : v = a ∨ v = b
  · rw [if_pos s0, if_pos s0]; omega
  · rw [if_neg s0, if_neg s0]
    have va : v ≠ a := fun z => s0 (Or.inl z)
    have vb : v ≠ b := fun z => s0 (Or.inr z)
    have h1 := hc.2 v v0 v1 va vb
    have h2 := jn_in (Sh := Sh) (n := n) v0 v1 va vb
    have h3 := hr (2 * (oa Sh n + nv a b v.toNat : Nat)) (by omega) (by omega)
    have h4 := hr (2 * (oa Sh n + nv a b v.toNat : Nat) + 1) (by omega) (by omega)
    omega
theorem ne_po (h : NE n N F T W Sh a b et eh ec) (hc : CA n N Sh a b c er) {p : Int → Int} (hp : ∀ e : Int, 0 ≤ e → e < (2 * (oa Sh n + nv a b N) : Nat) → 0 < er e → p (eh e) ≤ ec e + p (et e)) : PO n N F T W (fx Sh er) (fy n Sh a b er) (ua Sh) (zn a b c) p := by
  refine ⟨fun k k0 k1 => ?_, fun v v0 v1 => ?_⟩
  · unfold fx ua
    by_cases s0 : Sh k = 0
    · rw [if_pos s0, if_pos s0]
      obtain ⟨h1, h2, h3⟩ := h.1 k k0 k1 s0
      have g1 := hc.1 k k0 k1 s0
      have g2 := ja_in (a := a) (b := b) (N := N) k0 k1 s0
      obtain ⟨m1, m2, m3⟩ := h.2.2 (oa Sh k.toNat : Nat) (by omega) g2
      have p1 := hp (2 * (oa Sh k.toNat : Nat)) (by omega) (by omega)
      have p2 := hp (2 * (oa Sh k.toNat : Nat) + 1) (by omega) (by omega)
      rw [m1, m2, m3] at p2
      rw [h1, h2, h3] at p1 p2
      exact ⟨fun z => by have := p1 (by omega); omega, fun z => by have := p2 (by omega); omega⟩
    · rw [if_neg s0, if_neg s0]
      exact ⟨fun z => by omega, fun z => by omega⟩
  · unfold fy zn
    by_cases s0 : v = a ∨ v = b
    · rw [if_pos s0, if_pos s0]
      exact ⟨fun z => by omega, fun z => by omega⟩
    · rw [if_neg s0, if_neg s0]
      have va : v ≠ a := fun z => s0 (Or.inl z)
      have vb : v ≠ b := fun z => s0 (Or.inr z)
      obtain ⟨h1, h2, h3⟩ := h.2.1 v v0 v1 va vb
      have g1 := hc.2 v v0 v1 va vb
      have g2 := jn_in (Sh := Sh) (n := n) v0 v1 va vb
      obtain ⟨m1, m2, m3⟩ := h.2.2 (oa Sh n + nv a b v.toNat : Nat) (by omega) g2
      have p1 := hp (2 * (oa Sh n + nv a b v.toNat : Nat)) (by omega) (by omega)
      have p2 := hp (2 * (oa Sh n + nv a b v.toNat : Nat) + 1) (by omega) (by omega)
      rw [m1, m2, m3] at p2
      rw [h1, h2, h3] at p1 p2
      exact ⟨fun z => by have := p1 (by omega); omega, fun z => by have := p2 (by omega); omega⟩
/-- R leaves no edge with room -/
theorem ne_shut (h : NE n N F T W Sh a b et eh ec) (hr : ∀ e : Int, 0 ≤ e → e < (2 * (oa Sh n + nv a b N) : Nat) → 0 ≤ er e) (hc : CA n N Sh a b c er) {R : Int → Bool} (hR : ∀ e : Int, 0 ≤ e → e < (2 * (oa Sh n + nv a b N) : Nat) → 0 < er e → R (et e) = true → R (eh e) = true) : shutR n N F T (fx Sh er) (fy n Sh a b er) (ua Sh) (zn a b c) R := by
  refine ⟨fun k k0 k1 => ?_, fun v v0 v1 => ?_⟩
  · unfold fx ua
    by_cases s0 : Sh k = 0
    · rw [if_pos s0, if_pos s0]
      obtain ⟨h1, h2, h3⟩ := h.1 k k0 k1 s0
      have g1 := hc.1 k k0 k1 s0
      have g2 := ja_in (a := a) (b := b) (N := N) k0 k1 s0
      obtain ⟨m1, m2, m3⟩ := h.2.2 (oa Sh k.toNat : Nat) (by omega) g2
      have r1 := hr (2 * (oa Sh k.toNat : Nat)) (by omega) (by omega)
      have r2 := hr (2 * (oa Sh k.toNat : Nat) + 1) (by omega) (by omega)
      have p1 := hR (2 * (oa Sh k.toNat : Nat)) (by omega) (by omega)
      have p2 := hR (2 * (oa Sh k.toNat : Nat) + 1) (by omega) (by omega)
      rw [m1, m2] at p2
      rw [h1, h2] at p1 p2
      refine ⟨fun z1 z2 => ?_, fun z1 z2 => ?_⟩
      · refine Classical.byContradiction (fun q => ?_)
        rw [p1 (by omega) z1] at z2; cases z2
      · refine Classical.byContradiction (fun q => ?_)
        rw [p2 (by omega) z2] at z1; cases z1
    · rw [if_neg s0, if_neg s0]
      exact ⟨fun _ _ => rfl, fun _ _ => rfl⟩
  · unfold fy zn
    by_cases s0 : v = a ∨ v = b
    · rw [if_pos s0, if_pos s0]
      exact ⟨fun _ _ => rfl, fun _ _ => rfl⟩
    · rw [if_neg s0, if_neg s0]
      have va : v ≠ a := fun z => s0 (Or.inl z)
      have vb : v ≠ b := fun z => s0 (Or.inr z)
      obtain ⟨h1, h2, h3⟩ := h.2.1 v v0 v1 va vb
      have g1 := hc.2 v v0 v1 va vb
      have g2 := jn_in (Sh := Sh) (n := n) v0 v1 va vb
      obtain ⟨m1, m2, m3⟩ := h.2.2 (oa Sh n + nv a b v.toNat : Nat) (by omega) g2
      have r1 := hr (2 * (oa Sh n + nv a b v.toNat : Nat)) (by omega) (by omega)
      have r2 := hr (2 * (oa Sh n + nv a b v.toNat : Nat) + 1) (by omega) (by omega)
      have p1 := hR (2 * (oa Sh n + nv a b v.toNat : Nat)) (by omega) (by omega)
      have p2 := hR (2 * (oa Sh n + nv a b v.toNat : Nat) + 1) (by omega) (by omega)
      rw [m1, m2] at p2
      rw [h1, h2] at p1 p2
      refine ⟨fun z1 z2 => ?_, fun z1 z2 => ?_⟩
      · refine Classical.byContradiction (fun q => ?_)
        rw [p1 (by omega) z1] at z2; cases z2
      · refine Classical.byContradiction (fun q => ?_)
        rw [p2 (by omega) z2] at z1; cases z1
end NET
