/-! edges in pairs: 2 j and its way back 2 j + 1, whose room is what flows; one path more -/
def pt (e : Int) : Int := if e % 2 = 0 then e + 1 else e - 1
def pa (M : Nat) (et eh ec : Int → Int) : Prop := ∀ j : Int, 0 ≤ j → j < M → et (2 * j + 1) = eh (2 * j) ∧ eh (2 * j + 1) = et (2 * j) ∧ ec (2 * j + 1) = - ec (2 * j)
theorem pt_in {M : Nat} {e : Int} (h0 : 0 ≤ e) (h1 : e < (2 * M : Nat)) : 0 ≤ pt e ∧ pt e < (2 * M : Nat) ∧ pt e ≠ e ∧ pt (pt e) = e := by
  unfold pt
  by_cases c : e % 2 = 0
  · rw [if_pos c, if_neg (by omega)]; omega
  · rw [if_neg c, if_pos (by omega)]; omega
theorem pa_pt {M : Nat} {et eh ec : Int → Int} (h : pa M et eh ec) {e : Int} (h0 : 0 ≤ e) (h1 : e < (2 * M : Nat)) : et (pt e) = eh e ∧ eh (pt e) = et e ∧ ec (pt e) = - ec e := by
  unfold pt
  obtain ⟨a, b, c⟩ := h (e / 2) (by omega) (by omega)
  by_cases q : e % 2 = 0
  · have e1 : 2 * (e / 2) = e := by omega
    rw [e1] at a b c
    rw [if_pos q]
    exact ⟨a, b, c⟩
  · have e1 : 2 * (e / 2) = e - 1 := by omega
    have e2 : 2 * (e / 2) + 1 = e := by omega
    rw [e2, e1] at a b c
    rw [if_neg q]
    exact ⟨b.symm, a.symm, by omega⟩
/-- what flows, each pair weighed by g -/
def gs (M : Nat) (er g : Int → Int) : Int := sm (fun j => er (2 * j + 1) * g (2 * j)) M
def ps (er : Int → Int) (e : Int) : Int → Int := up_ (up_ er e (er e - 1)) (pt e) (er (pt e) + 1)
theorem ps_e {er : Int → Int} {e : Int} (h : pt e ≠ e) : ps er e e = er e - 1 := by
  unfold ps
  rw [up_n (fun q => h q.symm), up_s]
theorem ps_p {er : Int → Int} {e : Int} : ps er e (pt e) = er (pt e) + 1 := by
  unfold ps
  rw [up_s]
theorem ps_o {er : Int → Int} {e x : Int} (h1 : x ≠ e) (h2 : x ≠ pt e) : ps er e x = er x := by
  unfold ps
  rw [up_n h2, up_n h1]
theorem gs_push {M : Nat} {er g : Int → Int} {e : Int} (h0 : 0 ≤ e) (h1 : e < (2 * M : Nat)) (hg : ∀ j : Int, 0 ≤ j → j < M → g (2 * j + 1) = - g (2 * j)) : gs M (ps er e) g = gs M er g + g e := by
  obtain ⟨p0, p1, p2, p3⟩ := pt_in h0 h1
  have hj0 : 0 ≤ e / 2 := by omega
  have hj1 : e / 2 < (M : Int) := by omega
  unfold gs
  rw [sm_one (f := fun j => er (2 * j + 1) * g (2 * j)) (i := e / 2) hj0 M hj1 (fun j _ _ hj => by
    show ps er e (2 * j + 1) * g (2 * j) = er (2 * j + 1) * g (2 * j)
    rw [ps_o (by omega) (by unfold pt; split <;> omega)])]
  by_cases q : e % 2 = 0
  · have e1 : 2 * (e / 2) = e := by omega
    have e2 : 2 * (e / 2) + 1 = pt e := by unfold pt; rw [if_pos q]; omega
    have e3 : e + 1 = pt e := by unfold pt; rw [if_pos q]
    simp only [e1, e3]
    rw [ps_p, Int.add_mul]
    omega
  · have e2 : 2 * (e / 2) + 1 = e := by omega
    have hge := hg (e / 2) hj0 hj1
    rw [e2] at hge
    simp only [e2]
    rw [ps_e p2, Int.sub_mul]
    omega
/-- what is kept while the path's edges are taken, from the goal back to q -/
def AU (M : Nat) (et eh ec er0 er d le : Int → Int) (wk : Int → List Int) (s g q : Int) : Prop :=
  0 ≤ q ∧ q < 16 ∧ d q ≠ far ∧ (∀ p : Int → Int, gs M er (fun e => p (et e) - p (eh e)) = gs M er0 (fun e => p (et e) - p (eh e)) + (p q - p g)) ∧ gs M er ec = gs M er0 ec + (d g - d q) ∧
  (∀ e : Int, 0 ≤ e → e < (2 * M : Nat) → 0 ≤ er e) ∧ (∀ j : Int, 0 ≤ j → j < M → er (2 * j) + er (2 * j + 1) = er0 (2 * j) + er0 (2 * j + 1)) ∧
  (∀ e : Int, 0 ≤ e → e < (2 * M : Nat) → 0 < er e → 0 < er0 e ∨ (d (et e) ≠ far ∧ d (eh e) ≠ far ∧ d (eh e) = d (et e) + ec e)) ∧ (∀ x, x ∈ wk q → x ≠ s → er (le x) = er0 (le x))
theorem AU_0 {M : Nat} {et eh ec er d le : Int → Int} {wk : Int → List Int} {s g : Int} (g0 : 0 ≤ g) (g1 : g < 16) (hg : d g ≠ far) (hr : ∀ e : Int, 0 ≤ e → e < (2 * M : Nat) → 0 ≤ er e) : AU M et eh ec er er d le wk s g g :=
  ⟨g0, g1, hg, fun p => by omega, by omega, hr, fun _ _ _ => rfl, fun _ _ _ h => Or.inl h, fun _ _ _ => rfl⟩
/-- each last edge is as long as it must be -/
theorem BF_tight {E : Nat} {et eh ec er : Int → Int} {s : Int} {p d le : Int → Int} {wk : Int → List Int} {r : Nat} {i t : Int} (h : BF E et eh ec er s p d le wk r i t) (hs : ∀ e : Int, 0 ≤ e → e < E → sa et eh ec er d e) {v : Int} (v0 : 0 ≤ v) (v1 : v < 16) (vs : v ≠ s) (hv : d v ≠ far) :
    0 ≤ le v ∧ le v < E ∧ 0 < er (le v) ∧ eh (le v) = v ∧ d (et (le v)) ≠ far ∧ d v = d (et (le v)) + ec (le v) ∧ wk v = v :: wk (et (le v)) := by
  obtain ⟨a0, a1, a2, a3, a4, a5, a6, a7, a8⟩ := h
  obtain ⟨z1, z2, z3, z4, z5, z6, z7⟩ := a7 v v0 v1 vs hv
  have : d v = d (et (le v)) + ec (le v) := by
    rcases hs (le v) z1 z2 with q | q | q
    · omega
    · exact absurd q z5
    · rw [z4] at q; omega
  exact ⟨z1, z2, z3, z4, z5, this, z7 this⟩
theorem AU_step {M : Nat} {et eh ec er0 er : Int → Int} {s g q : Int} {p d le : Int → Int} {wk : Int → List Int} {r : Nat} {i t : Int} (hE : ed (2 * M) et eh ec er0 p) (hM : pa M et eh ec) (h : BF (2 * M) et eh ec er0 s p d le wk r i t) (hs : ∀ e : Int, 0 ≤ e → e < (2 * M : Nat) → sa et eh ec er0 d e)
    (hA : AU M et eh ec er0 er d le wk s g q) (hq : q ≠ s) : AU M et eh ec er0 (ps er (le q)) d le wk s g (et (le q)) ∧ (wk q).length = (wk (et (le q))).length + 1 ∧ 0 ≤ le q ∧ le q < (2 * M : Nat) := by
  obtain ⟨b0, b1, b2, b3, b4, b5, b6, b7, b8⟩ := hA
  obtain ⟨z1, z2, z3, z4, z5, z6, z7⟩ := BF_tight h hs b0 b1 hq b2
  obtain ⟨-, e1, -⟩ := hE
  obtain ⟨t0, t1, -⟩ := e1 (le q) z1 z2
  obtain ⟨p0, p1, p2, p3⟩ := pt_in z1 z2
  obtain ⟨m1, m2, m3⟩ := pa_pt hM z1 z2
  have hqw : q ∈ wk q := by rw [z7]; exact List.mem_cons_self
  have hrm : er (le q) = er0 (le q) := b8 q hqw hq
  have hw := (h.2.2.2.2.2.2.1 q b0 b1 b2).1
  rw [z7] at hw
  have hqn := (List.nodup_cons.mp hw).1
  refine ⟨⟨t0, t1, z5, fun f => ?_, ?_, fun e x0 x1 => ?_, fun j x0 x1 => ?_, fun e x0 x1 hx => ?_, fun x hx hxs => ?_⟩, by rw [z7, List.length_cons], z1, z2⟩
  · rw [gs_push z1 z2 (fun j j0 j1 => by
      obtain ⟨y1, y2, -⟩ := hM j j0 j1
      show f (et (2 * j + 1)) - f (eh (2 * j + 1)) = - (f (et (2 * j)) - f (eh (2 * j)))
      rw [y1, y2]; omega), b3 f, z4]
    omega
  · rw [gs_push z1 z2 (fun j j0 j1 => (hM j j0 j1).2.2), b4]
    omega
  · by_cases c1 : e = le q
    · subst c1; rw [ps_e p2]; omega
    · by_cases c2 : e = pt (le q)
      · subst c2; rw [ps_p]; have := b5 _ p0 p1; omega
      · rw [ps_o c1 c2]; exact b5 e x0 x1
  · rw [← b6 j x0 x1]
    by_cases c1 : 2 * j = le q
    · have c2 : 2 * j + 1 = pt (le q) := by unfold pt; rw [if_pos (by omega)]; omega
      rw [c1] at c2 ⊢
      rw [c2, ps_e p2, ps_p]; omega
    · by_cases c2 : 2 * j + 1 = le q
      · have c3 : 2 * j = pt (le q) := by unfold pt; rw [if_neg (by omega)]; omega
        rw [c2, c3, ps_e p2, ps_p]; omega
      · have c3 : 2 * j ≠ pt (le q) := by unfold pt; split <;> omega
        have c4 : 2 * j + 1 ≠ pt (le q) := by unfold pt; split <;> omega
        rw [ps_o c1 c3, ps_o c2 c4]
  · by_cases c2 : e = pt (le q)
    · subst c2
      right
      rw [m1, m2, m3, z4]
      exact ⟨b2, z5, by omega⟩
    · by_cases c1 : e = le q
      · subst c1
        left
        rw [ps_e p2] at hx
        omega
      · rw [ps_o c1 c2] at hx
        exact b7 e x0 x1 hx
  · have hx2 : x ∈ wk q := by rw [z7]; exact List.mem_cons_of_mem _ hx
    have hxq : x ≠ q := fun c => hqn (c ▸ hx)
    obtain ⟨x0, x1, x2, -⟩ := (h.2.2.2.2.2.2.1 q b0 b1 b2).2.2 x hx2
    obtain ⟨y1, y2, y3, y4, y5, y6, y7⟩ := BF_tight h hs x0 x1 hxs x2
    rw [ps_o, b8 x hx2 hxs]
    · intro c; rw [c, z4] at y4; exact hxq y4.symm
    · intro c
      have k1 : x = et (le q) := by rw [← y4, c, m2]
      have k2 : et (le x) = q := by rw [c, m1, z4]
      rw [k2] at y7
      rw [← k1] at z7
      have l1 := congrArg List.length y7
      have l2 := congrArg List.length z7
      simp only [List.length_cons] at l1 l2
      omega
/-- prices after one path more -/
theorem AU_end {M : Nat} {et eh ec er0 er : Int → Int} {s g : Int} {p d le : Int → Int} {wk : Int → List Int} {r : Nat} {i t : Int} (hE : ed (2 * M) et eh ec er0 p) (ht : t ≤ 900) (h : BF (2 * M) et eh ec er0 s p d le wk r i t) (hs : ∀ e : Int, 0 ≤ e → e < (2 * M : Nat) → sa et eh ec er0 d e)
    (hA : AU M et eh ec er0 er d le wk s g s) : ∃ p' : Int → Int, ed (2 * M) et eh ec er p' := by
  obtain ⟨b0, b1, b2, b3, b4, b5, b6, b7, b8⟩ := hA
  obtain ⟨e0, e1, e2⟩ := hE
  obtain ⟨a0, a1, a2, a3, a4, a5, a6, a7, a8⟩ := h
  refine ⟨fun v => if d v = far then p v + (3000000 + sm (fun v => ((p v).natAbs : Int)) 16) else d v, e0, e1, fun e x0 x1 hx => ?_⟩
  obtain ⟨u0, u1, v0, v1, uv, c0, c1⟩ := e1 e x0 x1
  have hab := sm_part (f := fun v => ((p v).natAbs : Int)) 16 (fun j _ _ => by omega) u0 u1
  have hab : ((p (et e)).natAbs : Int) ≤ sm (fun v => ((p v).natAbs : Int)) 16 := hab
  show (if d (eh e) = far then p (eh e) + (3000000 + sm (fun v => ((p v).natAbs : Int)) 16) else d (eh e)) ≤ ec e + (if d (et e) = far then p (et e) + (3000000 + sm (fun v => ((p v).natAbs : Int)) 16) else d (et e))
  rcases b7 e x0 x1 hx with q | ⟨q1, q2, q3⟩
  · have hp := e2 e x0 x1 q
    by_cases c : d (et e) = far
    · rw [if_pos c]
      by_cases c2 : d (eh e) = far
      · rw [if_pos c2]; omega
      · rw [if_neg c2]
        have := (a5 (eh e) v0 v1).resolve_left c2
        omega
    · have hb := (a5 (et e) u0 u1).resolve_left c
      have hsat : d (eh e) ≤ d (et e) + ec e := by
        rcases hs e x0 x1 with z | z | z
        · omega
        · exact absurd z c
        · exact z
      have c2 : d (eh e) ≠ far := by unfold far; omega
      rw [if_neg c, if_neg c2]
      omega
  · rw [if_neg q1, if_neg q2]; omega
