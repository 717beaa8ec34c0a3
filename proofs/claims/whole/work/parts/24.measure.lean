/-! the least ways out of a source over edges with room: what the rounds keep -/
def far : Int := 1000000
/-- edge e can't make a way shorter -/
def sa (et eh ec er d : Int → Int) (e : Int) : Prop := er e ≤ 0 ∨ d (et e) = far ∨ d (eh e) ≤ d (et e) + ec e
/-- what is fixed of the edges: E of them, places below 16; p is a price of each place that no edge with room undercuts -/
def ed (E : Nat) (et eh ec er : Int → Int) (p : Int → Int) : Prop := E ≤ 56 ∧ (∀ e : Int, 0 ≤ e → e < E → 0 ≤ et e ∧ et e < 16 ∧ 0 ≤ eh e ∧ eh e < 16 ∧ et e ≠ eh e ∧ -1000 ≤ ec e ∧ ec e ≤ 1000) ∧ (∀ e : Int, 0 ≤ e → e < E → 0 < er e → p (eh e) ≤ ec e + p (et e))
def upw (w : Int → List Int) (i : Int) (l : List Int) : Int → List Int := fun j => if j = i then l else w j
theorem upw_s {w : Int → List Int} {i : Int} {l : List Int} : upw w i l i = l := by simp [upw]
theorem upw_n {w : Int → List Int} {i j : Int} {l : List Int} (h : j ≠ i) : upw w i l j = w j := by simp [upw, h]
/-- of each place that has been come to: wk is a way to it -/
def bw (s : Int) (p d : Int → Int) (wk : Int → List Int) : Prop := ∀ v : Int, 0 ≤ v → v < 16 → d v ≠ far →
  (wk v).Nodup ∧ s ∈ wk v ∧ ∀ x, x ∈ wk v → 0 ≤ x ∧ x < 16 ∧ d x ≠ far ∧ d x + p v - p x ≤ d v
/-- its last edge -/
def bl (E : Nat) (et eh ec er : Int → Int) (s : Int) (d le : Int → Int) (wk : Int → List Int) : Prop := ∀ v : Int, 0 ≤ v → v < 16 → v ≠ s → d v ≠ far →
  0 ≤ le v ∧ le v < E ∧ 0 < er (le v) ∧ eh (le v) = v ∧ d (et (le v)) ≠ far ∧ d (et (le v)) + ec (le v) ≤ d v ∧ (d v = d (et (le v)) + ec (le v) → wk v = v :: wk (et (le v)))
/-- how far the rounds are: in round r, before edge i -/
def br (E : Nat) (et eh ec er d : Int → Int) (wk : Int → List Int) (r : Nat) (i : Int) : Prop := ∀ e : Int, 0 ≤ e → e < E →
  sa et eh ec er d e ∨ (if e < i then r + 1 else r) ≤ (wk (et e)).length
def bd_ (d : Int → Int) (t : Int) : Prop := ∀ v : Int, 0 ≤ v → v < 16 → d v = far ∨ (-1000 * t ≤ d v ∧ d v ≤ 1000 * t)
def BF (E : Nat) (et eh ec er : Int → Int) (s : Int) (p d le : Int → Int) (wk : Int → List Int) (r : Nat) (i t : Int) : Prop :=
  0 ≤ t ∧ 0 ≤ s ∧ s < 16 ∧ d s = 0 ∧ wk s = [s] ∧ bd_ d t ∧ bw s p d wk ∧ bl E et eh ec er s d le wk ∧ br E et eh ec er d wk r i
theorem BF_0 {E : Nat} {et eh ec er : Int → Int} {s : Int} {p d le : Int → Int} (h0 : 0 ≤ s) (h1 : s < 16) (hd : ∀ v : Int, 0 ≤ v → v < 16 → d v = if v = s then 0 else far) : BF E et eh ec er s p d le (fun v => [v]) 1 0 0 := by
  have hs : d s = 0 := by rw [hd s h0 h1, if_pos rfl]
  have hn : ∀ v : Int, 0 ≤ v → v < 16 → d v ≠ far → v = s := by
    intro v a b c
    refine Classical.byContradiction (fun q => c ?_)
    rw [hd v a b, if_neg q]
  refine ⟨by omega, h0, h1, hs, rfl, fun v a b => ?_, fun v a b c => ?_, fun v a b c q => absurd (hn v a b q) c, fun e a b => ?_⟩
  · rw [hd v a b]
    split
    · right; omega
    · left; rfl
  · obtain rfl := hn v a b c
    refine ⟨by simp, by simp, fun x hx => ?_⟩
    have : x = v := by simpa using hx
    subst this
    exact ⟨a, b, c, by omega⟩
  · right
    have : ¬ e < 0 := by omega
    simp [this]
/-- an edge that makes nothing shorter -/
theorem BF_keep {E : Nat} {et eh ec er : Int → Int} {s : Int} {p d le : Int → Int} {wk : Int → List Int} {r : Nat} {i t : Int} (h : BF E et eh ec er s p d le wk r i t) (hs : sa et eh ec er d i) : BF E et eh ec er s p d le wk r (i + 1) (t + 1) := by
  obtain ⟨a0, a1, a2, a3, a4, a5, a6, a7, a8⟩ := h
  refine ⟨by omega, a1, a2, a3, a4, fun v x y => ?_, a6, a7, fun e x y => ?_⟩
  · rcases a5 v x y with z | z
    · exact Or.inl z
    · right; omega
  · by_cases c : e = i
    · subst c; exact Or.inl hs
    · rcases a8 e x y with z | z
      · exact Or.inl z
      · right
        by_cases c1 : e < i
        · rw [if_pos c1] at z
          rw [if_pos (by omega)]
          exact z
        · rw [if_neg c1] at z
          rw [if_neg (by omega)]
          exact z
/-- an edge that does -/
theorem BF_step {E : Nat} {et eh ec er : Int → Int} {s : Int} {p d le : Int → Int} {wk : Int → List Int} {r : Nat} {i t : Int} (hE : ed E et eh ec er p) (h : BF E et eh ec er s p d le wk r i t) (i0 : 0 ≤ i) (i1 : i < E) (ht : t < 900) (hs : ¬ sa et eh ec er d i) :
    BF E et eh ec er s p (up_ d (eh i) (d (et i) + ec i)) (up_ le (eh i) i) (upw wk (eh i) (eh i :: wk (et i))) r (i + 1) (t + 1) := by
  obtain ⟨-, e1, e2⟩ := hE
  obtain ⟨a0, a1, a2, a3, a4, a5, a6, a7, a8⟩ := h
  obtain ⟨u0, u1, v0, v1, uv, c0, c1⟩ := e1 i i0 i1
  have n1 : 0 < er i := by
    refine Classical.byContradiction (fun q => hs (Or.inl (by omega)))
  have n2 : d (et i) ≠ far := fun q => hs (Or.inr (Or.inl q))
  have n3 : d (et i) + ec i < d (eh i) := by
    refine Classical.byContradiction (fun q => hs (Or.inr (Or.inr (by omega))))
  have hp := e2 i i0 i1 n1
  have hr8 := a8 i i0 i1
  rw [if_neg (by omega)] at hr8
  have hr : r ≤ (wk (et i)).length := hr8.resolve_left hs
  generalize hu : et i = u at *
  generalize hv : eh i = v at *
  generalize hc : ec i = c at *
  obtain ⟨w1, w2, w3⟩ := a6 u u0 u1 n2
  have hdu : -1000 * t ≤ d u ∧ d u ≤ 1000 * t := (a5 u u0 u1).resolve_left n2
  have hnew : d u + c ≠ far := by unfold far; omega
  have hvs : v ≠ s := by
    intro q
    have := w3 s w2
    rw [q, a3] at n3
    rw [q] at hp
    rw [a3] at this
    omega
  have hvw : v ∉ wk u := by
    intro q
    have := w3 v q
    omega
  have hlt : ∀ x, up_ d v (d u + c) x ≤ d x := by
    intro x
    by_cases q : x = v
    · subst q; rw [up_s]; omega
    · rw [up_n q]; exact Int.le_refl _
  have hfar : ∀ x, d x ≠ far → up_ d v (d u + c) x ≠ far := by
    intro x hx
    by_cases q : x = v
    · subst q; rw [up_s]; exact hnew
    · rw [up_n q]; exact hx
  refine ⟨by omega, a1, a2, by rw [up_n (fun q => hvs q.symm)]; exact a3, by rw [upw_n (fun q => hvs q.symm)]; exact a4, fun x x0 x1 => ?_, fun x x0 x1 hx => ?_, fun x x0 x1 xs hx => ?_, fun e x0 x1 => ?_⟩
  · by_cases q : x = v
    · subst q; rw [up_s]; right; omega
    · rw [up_n q]
      rcases a5 x x0 x1 with z | z
      · exact Or.inl z
      · right; omega
  · by_cases q : x = v
    · subst q
      rw [upw_s, up_s]
      refine ⟨List.nodup_cons.mpr ⟨hvw, w1⟩, List.mem_cons_of_mem _ w2, fun y hy => ?_⟩
      rcases List.mem_cons.mp hy with rfl | hy
      · rw [up_s]
        exact ⟨x0, x1, hnew, by omega⟩
      · have hyv : y ≠ x := fun z => hvw (z ▸ hy)
        obtain ⟨y0, y1, y2, y3⟩ := w3 y hy
        rw [up_n hyv]
        exact ⟨y0, y1, y2, by omega⟩
    · rw [up_n q] at hx ⊢
      rw [upw_n q]
      obtain ⟨z1, z2, z3⟩ := a6 x x0 x1 hx
      refine ⟨z1, z2, fun y hy => ?_⟩
      obtain ⟨y0, y1, y2, y3⟩ := z3 y hy
      have := hlt y
      exact ⟨y0, y1, hfar y y2, by omega⟩
  · by_cases q : x = v
    · subst q
      rw [up_s, up_s, upw_s]
      rw [hu, hv, hc]
      have huv : u ≠ x := uv
      rw [up_n huv, upw_n huv]
      exact ⟨i0, i1, n1, rfl, n2, Int.le_refl _, fun _ => rfl⟩
    · rw [up_n q] at hx ⊢
      rw [up_n q, upw_n q]
      obtain ⟨z1, z2, z3, z4, z5, z6, z7⟩ := a7 x x0 x1 xs hx
      by_cases q2 : et (le x) = v
      · rw [q2] at z5 z6 ⊢
        rw [up_s]
        exact ⟨z1, z2, z3, z4, hnew, by omega, fun z => by omega⟩
      · rw [up_n q2, upw_n q2]
        exact ⟨z1, z2, z3, z4, z5, z6, z7⟩
  · by_cases q : et e = v
    · right
      rw [q, upw_s, List.length_cons]
      split <;> omega
    · rw [upw_n q]
      by_cases q2 : e = i
      · subst q2
        left
        right; right
        rw [hu, hv, hc, up_s, up_n uv]
        exact Int.le_refl _
      · rcases a8 e x0 x1 with z | z
        · left
          rcases z with z | z | z
          · exact Or.inl z
          · right; left; rw [up_n q]; exact z
          · right; right
            rw [up_n q]
            have := hlt (eh e)
            omega
        · right
          by_cases c1 : e < i
          · rw [if_pos c1] at z
            rw [if_pos (by omega)]
            exact z
          · rw [if_neg c1] at z
            rw [if_neg (by omega)]
            exact z
theorem BF_round {E : Nat} {et eh ec er : Int → Int} {s : Int} {p d le : Int → Int} {wk : Int → List Int} {r : Nat} {t : Int} (h : BF E et eh ec er s p d le wk r E t) : BF E et eh ec er s p d le wk (r + 1) 0 t := by
  obtain ⟨a0, a1, a2, a3, a4, a5, a6, a7, a8⟩ := h
  refine ⟨a0, a1, a2, a3, a4, a5, a6, a7, fun e x y => ?_⟩
  rcases a8 e x y with z | z
  · exact Or.inl z
  · rw [if_pos y] at z
    rw [if_neg (by omega)]
    exact Or.inr z
/-- a way has 16 places at most -/
theorem BF_len {E : Nat} {et eh ec er : Int → Int} {s : Int} {p d le : Int → Int} {wk : Int → List Int} {r : Nat} {i t : Int} (h : BF E et eh ec er s p d le wk r i t) {v : Int} (v0 : 0 ≤ v) (v1 : v < 16) (hv : d v ≠ far) : (wk v).length ≤ 16 := by
  obtain ⟨a0, a1, a2, a3, a4, a5, a6, a7, a8⟩ := h
  obtain ⟨z1, z2, z3⟩ := a6 v v0 v1 hv
  have := z1.length_le_of_subset (l₂ := dk 16) (fun x hx => dk_mem.mpr ⟨(z3 x hx).1, (z3 x hx).2.1⟩)
  rw [dk_len] at this
  exact this
/-- after 16 rounds nothing can be made shorter -/
theorem BF_16 {E : Nat} {et eh ec er : Int → Int} {s : Int} {p d le : Int → Int} {wk : Int → List Int} {i t : Int} (hE : ed E et eh ec er p) (h : BF E et eh ec er s p d le wk 17 i t) : ∀ e : Int, 0 ≤ e → e < E → sa et eh ec er d e := by
  intro e e0 e1
  by_cases q : d (et e) = far
  · exact Or.inr (Or.inl q)
  · obtain ⟨x0, x1, -⟩ := hE.2.1 e e0 e1
    have hl := BF_len h x0 x1 q
    obtain ⟨a0, a1, a2, a3, a4, a5, a6, a7, a8⟩ := h
    rcases a8 e e0 e1 with z | z
    · exact z
    · split at z <;> omega
