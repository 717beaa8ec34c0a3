/-! a path as one number: its weight, its length, its arcs -/
def wp (W : Int → Int) : List Int → Int
  | [] => 0
  | k :: P => W k + wp W P
theorem wp_app {W : Int → Int} : ∀ (P Q : List Int), wp W (P ++ Q) = wp W P + wp W Q
  | [], Q => by simp [wp]
  | k :: P, Q => by simp only [List.cons_append, wp]; rw [wp_app P Q]; omega
theorem wp_bd {W : Int → Int} (hW : ∀ k, 0 ≤ W k ∧ W k ≤ 1000) : ∀ P : List Int, 0 ≤ wp W P ∧ wp W P ≤ 1000 * P.length
  | [] => by simp [wp]
  | k :: P => by
    have h1 := wp_bd hW P
    have h2 := hW k
    simp only [wp, List.length_cons]
    omega
def rw_ (P : List Int) : Int := P.foldl (fun r k => r * 32 + k) 0
theorem rw_app (P : List Int) (k : Int) : rw_ (P ++ [k]) = rw_ P * 32 + k := by simp [rw_]
def cd (W : Int → Int) (P : List Int) : Int := wp W P * 274877906944 + P.length * 34359738368 + rw_ P * 32 ^ (7 - P.length)
/-- arc i of a number -/
def ar_ (c i : Int) : Int := c / 2 ^ (5 * (6 - i)).toNat % 32
def ok5 (P : List Int) : Prop := P.length ≤ 7 ∧ ∀ k ∈ P, 0 ≤ k ∧ k < 32
theorem rw_bd {P : List Int} (h : ok5 P) : 0 ≤ rw_ P * 32 ^ (7 - P.length) ∧ rw_ P * 32 ^ (7 - P.length) < 34359738368 := by
  obtain ⟨hl, hk⟩ := h
  match P, hl, hk with
  | [], _, _ => simp [rw_]
  | [a], _, hk =>
    have := hk a (by simp)
    simp [rw_]; omega
  | [a, b], _, hk =>
    have := hk a (by simp); have := hk b (by simp)
    simp [rw_]; omega
  | [a, b, c], _, hk =>
    have := hk a (by simp); have := hk b (by simp); have := hk c (by simp)
    simp [rw_]; omega
  | [a, b, c, d], _, hk =>
    have := hk a (by simp); have := hk b (by simp); have := hk c (by simp); have := hk d (by simp)
    simp [rw_]; omega
  | [a, b, c, d, e], _, hk =>
    have := hk a (by simp); have := hk b (by simp); have := hk c (by simp); have := hk d (by simp); have := hk e (by simp)
    simp [rw_]; omega
  | [a, b, c, d, e, f], _, hk =>
    have := hk a (by simp); have := hk b (by simp); have := hk c (by simp); have := hk d (by simp); have := hk e (by simp); have := hk f (by simp)
    simp [rw_]; omega
  | [a, b, c, d, e, f, g], _, hk =>
    have := hk a (by simp); have := hk b (by simp); have := hk c (by simp); have := hk d (by simp); have := hk e (by simp); have := hk f (by simp); have := hk g (by simp)
    simp [rw_]; omega
  | a :: b :: c :: d :: e :: f :: g :: x :: y, hl, _ => simp only [List.length_cons] at hl; omega
theorem cd_w {W : Int → Int} {P : List Int} (h : ok5 P) : cd W P / 274877906944 = wp W P := by
  have h1 := rw_bd h
  have h2 := h.1
  unfold cd
  omega
theorem cd_l {W : Int → Int} {P : List Int} (h : ok5 P) : cd W P / 34359738368 % 8 = P.length := by
  have h1 := rw_bd h
  have h2 := h.1
  unfold cd
  omega
theorem cd_bd {W : Int → Int} (hW : ∀ k, 0 ≤ W k ∧ W k ≤ 1000) {P : List Int} (h : ok5 P) : 0 ≤ cd W P ∧ cd W P < 2251799813685248 := by
  have h1 := rw_bd h
  have h2 := h.1
  have h3 := wp_bd hW P
  unfold cd
  omega
/-- the number's arcs are the path's -/
theorem cd_a {W : Int → Int} {P : List Int} (h : ok5 P) : ∀ i : Nat, i < P.length → ar_ (cd W P) i = P.getD i 0 := by
  obtain ⟨hl, hk⟩ := h
  generalize hw : wp W P = w
  match P, hl, hk with
  | [], _, _ => intro i hi; simp at hi
  | [a], _, hk =>
    have := hk a (by simp)
    intro i hi
    match i, hi with
    | 0, _ => simp only [ar_, cd, hw]; simp [rw_]; omega
    | i + 1, hi => (exfalso; simp only [List.length_cons, List.length_nil] at hi; omega)
  | [a, b], _, hk =>
    have := hk a (by simp); have := hk b (by simp)
    intro i hi
    match i, hi with
    | 0, _ => simp only [ar_, cd, hw]; simp [rw_]; omega
    | 1, _ => simp only [ar_, cd, hw]; simp [rw_]; omega
    | i + 2, hi => (exfalso; simp only [List.length_cons, List.length_nil] at hi; omega)
  | [a, b, c], _, hk =>
    have := hk a (by simp); have := hk b (by simp); have := hk c (by simp)
    intro i hi
    match i, hi with
    | 0, _ => simp only [ar_, cd, hw]; simp [rw_]; omega
    | 1, _ => simp only [ar_, cd, hw]; simp [rw_]; omega
    | 2, _ => simp only [ar_, cd, hw]; simp [rw_]; omega
    | i + 3, hi => (exfalso; simp only [List.length_cons, List.length_nil] at hi; omega)
  | [a, b, c, d], _, hk =>
    have := hk a (by simp); have := hk b (by simp); have := hk c (by simp); have := hk d (by simp)
    intro i hi
    match i, hi with
    | 0, _ => simp only [ar_, cd, hw]; simp [rw_]; omega
    | 1, _ => simp only [ar_, cd, hw]; simp [rw_]; omega
    | 2, _ => simp only [ar_, cd, hw]; simp [rw_]; omega
    | 3, _ => simp only [ar_, cd, hw]; simp [rw_]; omega
    | i + 4, hi => (exfalso; simp only [List.length_cons, List.length_nil] at hi; omega)
  | [a, b, c, d, e], _, hk =>
    have := hk a (by simp); have := hk b (by simp); have := hk c (by simp); have := hk d (by simp); have := hk e (by simp)
    intro i hi
    match i, hi with
    | 0, _ => simp only [ar_, cd, hw]; simp [rw_]; omega
    | 1, _ => simp only [ar_, cd, hw]; simp [rw_]; omega
    | 2, _ => simp only [ar_, cd, hw]; simp [rw_]; omega
    | 3, _ => simp only [ar_, cd, hw]; simp [rw_]; omega
    | 4, _ => simp only [ar_, cd, hw]; simp [rw_]; omega
    | i + 5, hi => (exfalso; simp only [List.length_cons, List.length_nil] at hi; omega)
  | [a, b, c, d, e, f], _, hk =>
    have := hk a (by simp); have := hk b (by simp); have := hk c (by simp); have := hk d (by simp); have := hk e (by simp); have := hk f (by simp)
    intro i hi
    match i, hi with
    | 0, _ => simp only [ar_, cd, hw]; simp [rw_]; omega
    | 1, _ => simp only [ar_, cd, hw]; simp [rw_]; omega
    | 2, _ => simp only [ar_, cd, hw]; simp [rw_]; omega
    | 3, _ => simp only [ar_, cd, hw]; simp [rw_]; omega
    | 4, _ => simp only [ar_, cd, hw]; simp [rw_]; omega
    | 5, _ => simp only [ar_, cd, hw]; simp [rw_]; omega
    | i + 6, hi => (exfalso; simp only [List.length_cons, List.length_nil] at hi; omega)
  | [a, b, c, d, e, f, g], _, hk =>
    have := hk a (by simp); have := hk b (by simp); have := hk c (by simp); have := hk d (by simp); have := hk e (by simp); have := hk f (by simp); have := hk g (by simp)
    intro i hi
    match i, hi with
    | 0, _ => simp only [ar_, cd, hw]; simp [rw_]; omega
    | 1, _ => simp only [ar_, cd, hw]; simp [rw_]; omega
    | 2, _ => simp only [ar_, cd, hw]; simp [rw_]; omega
    | 3, _ => simp only [ar_, cd, hw]; simp [rw_]; omega
    | 4, _ => simp only [ar_, cd, hw]; simp [rw_]; omega
    | 5, _ => simp only [ar_, cd, hw]; simp [rw_]; omega
    | 6, _ => simp only [ar_, cd, hw]; simp [rw_]; omega
    | i + 7, hi => (exfalso; simp only [List.length_cons, List.length_nil] at hi; omega)
  | a :: b :: c :: d :: e :: f :: g :: x :: y, hl, _ => simp only [List.length_cons] at hl; omega
theorem cd_inj {W : Int → Int} {P Q : List Int} (hP : ok5 P) (hQ : ok5 Q) (h : cd W P = cd W Q) : P = Q := by
  have h1 : P.length = Q.length := by
    have a := cd_l (W := W) hP
    have b := cd_l (W := W) hQ
    rw [h, b] at a
    omega
  refine List.ext_getElem h1 (fun i hi hj => ?_)
  have a := cd_a (W := W) hP i hi
  have b := cd_a (W := W) hQ i hj
  rw [h, b] at a
  simp [hi, hj] at a
  exact a.symm
/-- who is ahead: by weight, then length, then row -/
theorem cd_lt {W : Int → Int} {P Q : List Int} (hP : ok5 P) (hQ : ok5 Q) : cd W P < cd W Q ↔ (wp W P < wp W Q ∨ (wp W P = wp W Q ∧ (P.length < Q.length ∨ (P.length = Q.length ∧ rw_ P < rw_ Q)))) := by
  have p1 := rw_bd hP
  have q1 := rw_bd hQ
  have p2 := hP.1
  have q2 := hQ.1
  have key : P.length = Q.length → (rw_ P * 32 ^ (7 - P.length) < rw_ Q * 32 ^ (7 - Q.length) ↔ rw_ P < rw_ Q) := by
    intro e
    rw [e]
    exact Int.mul_lt_mul_right (Int.pow_pos (by omega))
  by_cases e : P.length = Q.length
  · have k := key e
    unfold cd
    generalize rw_ P * 32 ^ (7 - P.length) = x at *
    generalize rw_ Q * 32 ^ (7 - Q.length) = y at *
    constructor
    · intro h
      by_cases c : wp W P < wp W Q
      · exact Or.inl c
      · exact Or.inr ⟨by omega, Or.inr ⟨e, k.mp (by omega)⟩⟩
    · rintro (h | ⟨h1, h | ⟨-, h⟩⟩)
      · omega
      · omega
      · have := k.mpr h; omega
  · unfold cd
    omega
