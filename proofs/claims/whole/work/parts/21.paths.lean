/-! the paths of a graph: n arcs, from F, to T, shut Sh (0: no), goal b; all of them in the order in which a search meets them -/
def dk (n : Nat) : List Int := (List.range n).map (fun (k : Nat) => (k : Int))
theorem dk_len (n : Nat) : (dk n).length = n := by simp [dk]
theorem dk_mem {n : Nat} {k : Int} : k ∈ dk n ↔ 0 ≤ k ∧ k < n := by
  simp only [dk, List.mem_map, List.mem_range]
  constructor
  · rintro ⟨a, h, rfl⟩; omega
  · rintro ⟨h0, h1⟩; exact ⟨k.toNat, by omega, by omega⟩
theorem dk_succ (n : Nat) : dk (n + 1) = dk n ++ [(n : Int)] := by simp [dk, List.range_succ]
theorem dk_drop {n k : Nat} (h : k < n) : (dk n).drop k = (k : Int) :: (dk n).drop (k + 1) := by
  rw [List.drop_eq_getElem_cons (by rw [dk_len]; exact h)]
  simp [dk]
theorem dk_drop_n (n : Nat) : (dk n).drop n = [] := List.drop_eq_nil_of_le (by rw [dk_len]; exact Nat.le_refl _)
/-- what one arc k out of u gives -/
def db (F T Sh : Int → Int) (u : Int) (seen : List Int) (rest : Int → List (List Int)) (k : Int) : List (List Int) :=
  if F k = u ∧ Sh k = 0 ∧ T k ∉ u :: seen then (rest (T k)).map (fun P => k :: P) else []
def df (n : Nat) (F T Sh : Int → Int) (b : Int) : Nat → Int → List Int → List (List Int)
  | 0, u, _ => if u = b then [[]] else []
  | d + 1, u, seen => if u = b then [[]] else (dk n).flatMap (db F T Sh u seen (fun v => df n F T Sh b d v (u :: seen)))
theorem df_b {n : Nat} {F T Sh : Int → Int} {b : Int} (d : Nat) (seen : List Int) : df n F T Sh b d b seen = [[]] := by
  cases d <;> simp [df]
theorem df_s {n : Nat} {F T Sh : Int → Int} {b u : Int} (h : u ≠ b) (d : Nat) (seen : List Int) : df n F T Sh b (d + 1) u seen = (dk n).flatMap (db F T Sh u seen (fun v => df n F T Sh b d v (u :: seen))) := by
  simp [df, h]
/-- P is a path from u to b that comes to no node of seen, and to none twice -/
def vq (n : Nat) (F T Sh : Int → Int) (b : Int) : Int → List Int → List Int → Prop
  | u, _, [] => u = b
  | u, seen, k :: P => u ≠ b ∧ 0 ≤ k ∧ k < n ∧ F k = u ∧ Sh k = 0 ∧ T k ∉ u :: seen ∧ vq n F T Sh b (T k) (u :: seen) P
theorem df_mem {n : Nat} {F T Sh : Int → Int} {b : Int} : ∀ (d : Nat) (u : Int) (seen P : List Int), P ∈ df n F T Sh b d u seen ↔ vq n F T Sh b u seen P ∧ P.length ≤ d := by
  intro d
  induction d with
  | zero =>
    intro u seen P
    by_cases h : u = b
    · cases P with
      | nil => simp [df, h, vq]
      | cons k P => simp [df, h, vq]
    · cases P with
      | nil => simp [df, h, vq]
      | cons k P => simp [df, h, vq]
  | succ d ih =>
    intro u seen P
    by_cases h : u = b
    · subst h
      cases P with
      | nil => simp [df, vq]
      | cons k P => simp [df, vq]
    · rw [df_s h]
      cases P with
      | nil =>
        simp only [vq, h, false_and, iff_false]
        intro hm
        obtain ⟨k, -, hk⟩ := List.mem_flatMap.mp hm
        unfold db at hk
        split at hk
        · obtain ⟨q, -, hq⟩ := List.mem_map.mp hk; cases hq
        · cases hk
      | cons k P =>
        rw [List.mem_flatMap]
        constructor
        · rintro ⟨k', hk', hm⟩
          unfold db at hm
          split at hm
          · next hc =>
            obtain ⟨q, hq, he⟩ := List.mem_map.mp hm
            injection he with e1 e2
            subst e1; subst e2
            obtain ⟨h1, h2⟩ := (ih _ _ _).mp hq
            obtain ⟨g0, g1⟩ := dk_mem.mp hk'
            exact ⟨⟨h, g0, g1, hc.1, hc.2.1, hc.2.2, h1⟩, by simp only [List.length_cons]; omega⟩
          · cases hm
        · rintro ⟨⟨-, g0, g1, c1, c2, c3, hv⟩, hl⟩
          simp only [List.length_cons] at hl
          refine ⟨k, dk_mem.mpr ⟨g0, g1⟩, ?_⟩
          unfold db
          rw [if_pos ⟨c1, c2, c3⟩]
          exact List.mem_map.mpr ⟨P, (ih _ _ _).mpr ⟨hv, by omega⟩, rfl⟩
/-- a path is shorter than there are nodes -/
theorem vq_len {n : Nat} {F T Sh : Int → Int} {b : Int} {N : Nat} (hT : ∀ k : Int, 0 ≤ k → k < n → 0 ≤ T k ∧ T k < N) : ∀ (P : List Int) (u : Int) (seen : List Int), (u :: seen).Nodup → (∀ v, v ∈ u :: seen → 0 ≤ v ∧ v < (N : Int)) → vq n F T Sh b u seen P → P.length + seen.length + 1 ≤ N := by
  intro P
  induction P with
  | nil =>
    intro u seen hn hi _
    have := hn.length_le_of_subset (l₂ := dk N) (fun v hv => dk_mem.mpr (hi v hv))
    rw [dk_len] at this
    simp only [List.length_cons, List.length_nil] at this ⊢
    omega
  | cons k P ih =>
    intro u seen hn hi hv
    obtain ⟨-, g0, g1, -, -, c3, hv⟩ := hv
    have := ih (T k) (u :: seen) (List.nodup_cons.mpr ⟨c3, hn⟩) (fun v hm => by
      rcases List.mem_cons.mp hm with rfl | hm
      · exact hT k g0 g1
      · exact hi v hm) hv
    simp only [List.length_cons] at this ⊢
    omega
/-- the arcs of a path are arcs -/
theorem vq_arcs {n : Nat} {F T Sh : Int → Int} {b : Int} : ∀ (P : List Int) (u : Int) (seen : List Int), vq n F T Sh b u seen P → ∀ k ∈ P, 0 ≤ k ∧ k < n := by
  intro P
  induction P with
  | nil => intro u seen _ k hk; cases hk
  | cons a P ih =>
    intro u seen hv k hk
    obtain ⟨-, g0, g1, -, -, -, hv⟩ := hv
    rcases List.mem_cons.mp hk with rfl | hk
    · exact ⟨g0, g1⟩
    · exact ih _ _ hv k hk
/-! there are 1458 paths at most -/
/-- how many of the first n arcs leave u -/
def dr (F : Int → Int) (u : Int) : Nat → Nat
  | 0 => 0
  | n + 1 => dr F u n + (if F n = u then 1 else 0)
theorem df_cnt {F T Sh : Int → Int} {u : Int} {seen : List Int} {rest : Int → List (List Int)} {B : Nat} (hB : ∀ k : Int, F k = u → T k ∉ u :: seen → (rest (T k)).length ≤ B) : ∀ n : Nat, ((dk n).flatMap (db F T Sh u seen rest)).length ≤ dr F u n * B := by
  intro n
  induction n with
  | zero => simp [dk]
  | succ n ih =>
    rw [dk_succ, List.flatMap_append, List.length_append]
    have h2 : ([(n : Int)].flatMap (db F T Sh u seen rest)).length ≤ (if F n = u then 1 else 0) * B := by
      simp only [List.flatMap_cons, List.flatMap_nil, List.append_nil]
      unfold db
      split
      · next hc =>
        rw [List.length_map, if_pos hc.1, Nat.one_mul]
        exact hB n hc.1 hc.2.2
      · simp
    simp only [dr, Nat.add_mul]
    omega
/-- the product of what leaves each node below m, but those of ex and b -/
def pr_ (F : Int → Int) (n : Nat) (b : Int) (ex : List Int) : Nat → Nat
  | 0 => 1
  | v + 1 => pr_ F n b ex v * (if (v : Int) ∈ ex ∨ (v : Int) = b then 1 else max 1 (dr F v n))
theorem pr_pos {F : Int → Int} {n : Nat} {b : Int} {ex : List Int} : ∀ m : Nat, 1 ≤ pr_ F n b ex m := by
  intro m
  induction m with
  | zero => exact Nat.le_refl _
  | succ m ih =>
    simp only [pr_]
    refine Nat.le_trans ih (Nat.le_mul_of_pos_right _ ?_)
    split <;> omega
theorem pr_skip {F : Int → Int} {n : Nat} {b u : Int} {ex : List Int} : ∀ m : Nat, (m : Int) ≤ u → pr_ F n b (u :: ex) m = pr_ F n b ex m := by
  intro m
  induction m with
  | zero => intro _; rfl
  | succ m ih =>
    intro h
    have hne : ¬ (m : Int) = u := by omega
    simp only [pr_, List.mem_cons, hne, false_or]
    rw [ih (by omega)]
theorem pr_cut {F : Int → Int} {n : Nat} {b u : Int} {ex : List Int} (h1 : u ∉ ex) (h2 : u ≠ b) (h0 : 0 ≤ u) : ∀ m : Nat, u < m → pr_ F n b ex m = max 1 (dr F u n) * pr_ F n b (u :: ex) m := by
  intro m
  induction m with
  | zero => intro h; omega
  | succ m ih =>
    intro h
    by_cases e : u = m
    · subst e
      have hc : ¬ ((m : Int) ∈ ex ∨ (m : Int) = b) := fun q => q.elim h1 h2
      simp only [pr_, hc, if_false, List.mem_cons, true_or, if_true, Nat.mul_one]
      rw [pr_skip m (Int.le_refl _), Nat.mul_comm]
    · have hne : ¬ (m : Int) = u := fun q => e q.symm
      simp only [pr_, List.mem_cons, hne, false_or]
      rw [ih (by omega), Nat.mul_assoc]
theorem df_prod {n : Nat} {F T Sh : Int → Int} {b : Int} (hT : ∀ k : Int, 0 ≤ T k ∧ T k < 8) : ∀ (d : Nat) (u : Int) (seen : List Int), u ∉ seen → 0 ≤ u → u < 8 → (df n F T Sh b d u seen).length ≤ pr_ F n b seen 8 := by
  intro d
  induction d with
  | zero =>
    intro u seen _ _ _
    refine Nat.le_trans ?_ (pr_pos 8)
    simp only [df]
    split <;> simp
  | succ d ih =>
    intro u seen hu h0 h8
    by_cases h : u = b
    · subst h
      rw [df_b]
      exact pr_pos 8
    · rw [df_s h, pr_cut hu h h0 8 (by omega)]
      refine Nat.le_trans (df_cnt (B := pr_ F n b (u :: seen) 8) (fun k _ hk => ih (T k) (u :: seen) hk (hT k).1 (hT k).2) n) ?_
      exact Nat.mul_le_mul_right _ (Nat.le_max_right _ _)
/-- greatest products of k numbers that are s together -/
def tb_ : List (List Nat) := [[1, 1, 1, 1, 1, 1, 1, 1, 1, 1, 1, 1, 1, 1, 1, 1, 1, 1, 1, 1, 1], [1, 1, 2, 3, 4, 5, 6, 7, 8, 9, 10, 11, 12, 13, 14, 15, 16, 17, 18, 19, 20], [1, 1, 2, 3, 4, 6, 9, 12, 16, 20, 25, 30, 36, 42, 49, 56, 64, 72, 81, 90, 100], [1, 1, 2, 3, 4, 6, 9, 12, 18, 27, 36, 48, 64, 80, 100, 125, 150, 180, 216, 252, 294], [1, 1, 2, 3, 4, 6, 9, 12, 18, 27, 36, 54, 81, 108, 144, 192, 256, 320, 400, 500, 625], [1, 1, 2, 3, 4, 6, 9, 12, 18, 27, 36, 54, 81, 108, 162, 243, 324, 432, 576, 768, 1024], [1, 1, 2, 3, 4, 6, 9, 12, 18, 27, 36, 54, 81, 108, 162, 243, 324, 486, 729, 972, 1296], [1, 1, 2, 3, 4, 6, 9, 12, 18, 27, 36, 54, 81, 108, 162, 243, 324, 486, 729, 972, 1458]]
def tb (k s : Nat) : Nat := (tb_.getD k []).getD s 0
theorem tb_step : ∀ k, k < 7 → ∀ s, s < 21 → ∀ d, d < s + 1 → max 1 d * tb k (s - d) ≤ tb (k + 1) s := by decide +kernel
theorem tb_end : ∀ s, s < 21 → tb 7 s ≤ 1458 := by decide +kernel
theorem tb_zero : ∀ s, s < 21 → tb 0 s = 1 := by decide +kernel
/-- how many arcs leave the nodes below m, but b -/
def ds (F : Int → Int) (n : Nat) (b : Int) : Nat → Nat
  | 0 => 0
  | v + 1 => ds F n b v + (if (v : Int) = b then 0 else dr F v n)
theorem ds_le {F : Int → Int} {b : Int} : ∀ n m : Nat, ds F n b m ≤ n := by
  have h1 : ∀ m : Nat, ds F 0 b m = 0 := by
    intro m
    induction m with
    | zero => rfl
    | succ m ih => simp only [ds, ih, dr]; split <;> rfl
  have h2 : ∀ n m : Nat, ds F (n + 1) b m ≤ ds F n b m + (if 0 ≤ F n ∧ F n < m then 1 else 0) := by
    intro n m
    induction m with
    | zero => simp [ds]
    | succ m ih =>
      simp only [ds, dr]
      by_cases e : F n = m
      · have c1 : ¬ (0 ≤ F n ∧ F n < (m : Int)) := by omega
        have c2 : 0 ≤ F n ∧ F n < ((m + 1 : Nat) : Int) := by omega
        rw [if_neg c1] at ih
        rw [if_pos c2, if_pos e]
        split <;> omega
      · rw [if_neg e]
        by_cases c1 : 0 ≤ F n ∧ F n < (m : Int)
        · have c2 : 0 ≤ F n ∧ F n < ((m + 1 : Nat) : Int) := by omega
          rw [if_pos c1] at ih
          rw [if_pos c2]
          split <;> omega
        · have c2 : ¬ (0 ≤ F n ∧ F n < ((m + 1 : Nat) : Int)) := by omega
          rw [if_neg c1] at ih
          rw [if_neg c2]
          split <;> omega
  intro n
  induction n with
  | zero => intro m; rw [h1]; exact Nat.le_refl _
  | succ n ih =>
    intro m
    have := h2 n m
    have := ih m
    split at * <;> omega
/-- how many nodes below m aren't b -/
def nb (b : Int) : Nat → Nat
  | 0 => 0
  | v + 1 => nb b v + (if (v : Int) = b then 0 else 1)
theorem nb_le {b : Int} (h0 : 0 ≤ b) : ∀ m : Nat, nb b m + (if b < m then 1 else 0) = m := by
  intro m
  induction m with
  | zero => simp [nb]; omega
  | succ m ih =>
    simp only [nb]
    by_cases e : (m : Int) = b
    · rw [if_pos e, if_pos (by omega)]
      rw [if_neg (by omega)] at ih
      omega
    · rw [if_neg e]
      by_cases c : b < m
      · rw [if_pos c] at ih
        rw [if_pos (by omega)]
        omega
      · rw [if_neg c] at ih
        rw [if_neg (by omega)]
        omega
theorem pr_tb {F : Int → Int} {n : Nat} {b : Int} (hn : n ≤ 20) (h0 : 0 ≤ b) (h8 : b < 8) : ∀ m : Nat, m ≤ 8 → pr_ F n b [] m ≤ tb (nb b m) (ds F n b m) := by
  intro m
  induction m with
  | zero => intro _; simp only [pr_, nb, ds]; rw [tb_zero 0 (by omega)]; exact Nat.le_refl _
  | succ m ih =>
    intro hm
    have h1 := ih (by omega)
    simp only [pr_, nb, ds, List.not_mem_nil, false_or]
    by_cases e : (m : Int) = b
    · rw [if_pos e, if_pos e, if_pos e, Nat.mul_one, Nat.add_zero, Nat.add_zero]
      exact h1
    · rw [if_neg e, if_neg e, if_neg e]
      have hb := nb_le (b := b) h0 m
      have hb2 := nb_le (b := b) h0 (m + 1)
      have hk : nb b m < 7 := by
        simp only [nb] at hb2
        rw [if_neg e] at hb2
        split at hb2
        · split at hb <;> omega
        · omega
      have hs : ds F n b m + dr F m n < 21 := by
        have := ds_le (F := F) (b := b) n (m + 1)
        simp only [ds] at this
        rw [if_neg e] at this
        omega
      have h2 := tb_step (nb b m) hk (ds F n b m + dr F m n) hs (dr F m n) (by omega)
      rw [Nat.add_sub_cancel] at h2
      refine Nat.le_trans (Nat.mul_le_mul_right _ h1) ?_
      rw [Nat.mul_comm]
      exact h2
theorem df_max {n : Nat} {F T Sh : Int → Int} {b : Int} (hT : ∀ k : Int, 0 ≤ T k ∧ T k < 8) (hn : n ≤ 20) (h0 : 0 ≤ b) (h8 : b < 8) (d : Nat) {u : Int} (hu0 : 0 ≤ u) (hu : u < 8) : (df n F T Sh b d u []).length ≤ 1458 := by
  have h1 := df_prod (n := n) (F := F) (Sh := Sh) (b := b) hT d u [] (by simp) hu0 hu
  have h2 := pr_tb (F := F) (n := n) hn h0 h8 8 (Nat.le_refl _)
  have h3 := nb_le (b := b) h0 8
  rw [if_pos (by omega)] at h3
  have h4 : nb b 8 = 7 := by omega
  rw [h4] at h2
  have h5 := tb_end (ds F n b 8) (by have := ds_le (F := F) (b := b) n 8; omega)
  omega
