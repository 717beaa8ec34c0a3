section
/-! numbers, sums and arrays as functions on Int: words for the state -/
def up_ (f : Int → Int) (i v : Int) : Int → Int := fun j => if j = i then v else f j
theorem up_s {f : Int → Int} {i v : Int} : up_ f i v i = v := by simp [up_]
theorem up_n {f : Int → Int} {i v j : Int} (h : j ≠ i) : up_ f i v j = f j := by simp [up_, h]
/-- f 0 + .. + f (n - 1) -/
def sm (f : Int → Int) : Nat → Int
  | 0 => 0
  | n + 1 => sm f n + f n
theorem sm_congr {f g : Int → Int} : ∀ (n : Nat), (∀ j : Int, 0 ≤ j → j < n → f j = g j) → sm f n = sm g n
  | 0, _ => rfl
  | n + 1, h => by
    simp only [sm]
    rw [sm_congr n (fun j h0 h1 => h j h0 (by omega)), h n (by omega) (by omega)]
theorem sm_le {f g : Int → Int} : ∀ (n : Nat), (∀ j : Int, 0 ≤ j → j < n → f j ≤ g j) → sm f n ≤ sm g n
  | 0, _ => Int.le_refl _
  | n + 1, h => by
    simp only [sm]
    have h1 := sm_le n (fun j h0 h1 => h j h0 (by omega))
    have h2 := h n (by omega) (by omega)
    omega
theorem sm_zero : ∀ (n : Nat), sm (fun _ => 0) n = 0
  | 0 => rfl
  | n + 1 => by simp only [sm]; rw [sm_zero n]; omega
theorem sm_nn {f : Int → Int} (n : Nat) (h : ∀ j : Int, 0 ≤ j → j < n → 0 ≤ f j) : 0 ≤ sm f n := by
  have := sm_le (f := fun _ => 0) (g := f) n h
  rw [sm_zero] at this
  exact this
theorem sm_add (f g : Int → Int) : ∀ (n : Nat), sm (fun j => f j + g j) n = sm f n + sm g n
  | 0 => rfl
  | n + 1 => by simp only [sm]; rw [sm_add f g n]; omega
theorem sm_sub (f g : Int → Int) : ∀ (n : Nat), sm (fun j => f j - g j) n = sm f n - sm g n
  | 0 => rfl
  | n + 1 => by simp only [sm]; rw [sm_sub f g n]; omega
/-- one place differs -/
theorem sm_one {f g : Int → Int} {i : Int} (h0 : 0 ≤ i) : ∀ (n : Nat), i < n → (∀ j : Int, 0 ≤ j → j < n → j ≠ i → g j = f j) → sm g n = sm f n - f i + g i
  | 0, h, _ => by omega
  | n + 1, h, hg => by
    simp only [sm]
    by_cases e : i = n
    · subst e
      rw [sm_congr n (f := g) (g := f) (fun j h0 h1 => hg j h0 (by omega) (by omega))]
      omega
    · have h1 := sm_one h0 n (by omega) (fun j a b c => hg j a (by omega) c)
      have h2 := hg n (by omega) (by omega) (fun q => e q.symm)
      omega
theorem sm_up {f : Int → Int} {i v : Int} (h0 : 0 ≤ i) (n : Nat) (h : i < n) : sm (up_ f i v) n = sm f n - f i + v := by
  have := sm_one (f := f) (g := up_ f i v) h0 n h (fun j _ _ hj => up_n hj)
  rw [up_s] at this
  exact this
/-- a sum of nothing negative has each part below it -/
theorem sm_part {f : Int → Int} (n : Nat) (h : ∀ j : Int, 0 ≤ j → j < n → 0 ≤ f j) {i : Int} (h0 : 0 ≤ i) (hi : i < n) : f i ≤ sm f n := by
  have h1 := sm_one (f := f) (g := fun j => if j = i then 0 else f j) h0 n hi (fun j _ _ hj => by simp [hj])
  have h2 := sm_nn (f := fun j => if j = i then 0 else f j) n (fun j a b => by
    by_cases e : j = i
    · simp [e]
    · simp [e]; exact h j a b)
  simp at h1
  omega
/-- a positive sum has a positive part -/
theorem sm_pos {f : Int → Int} (n : Nat) (h : 0 < sm f n) : ∃ j : Int, 0 ≤ j ∧ j < n ∧ 0 < f j := by
  refine Classical.byContradiction (fun hn => ?_)
  have := sm_le (f := f) (g := fun _ => 0) n (fun j a b => by
    refine Classical.byContradiction (fun q => hn ⟨j, a, b, by omega⟩))
  rw [sm_zero] at this
  omega
/-- how often v stands among f 0 .. f (n - 1) -/
def ct (f : Int → Int) (v : Int) (n : Nat) : Int := sm (fun j => if f j = v then 1 else 0) n
theorem ct_0 (f : Int → Int) (v : Int) : ct f v 0 = 0 := rfl
theorem ct_s (f : Int → Int) (v : Int) (n : Nat) : ct f v (n + 1) = ct f v n + (if f n = v then 1 else 0) := rfl
theorem ct_congr {f g : Int → Int} (v : Int) (n : Nat) (h : ∀ j : Int, 0 ≤ j → j < n → f j = g j) : ct f v n = ct g v n :=
  sm_congr n (fun j a b => by rw [h j a b])
theorem ct_up {f : Int → Int} {i x : Int} (v : Int) (h0 : 0 ≤ i) (n : Nat) (h : i < n) : ct (up_ f i x) v n = ct f v n - (if f i = v then 1 else 0) + (if x = v then 1 else 0) := by
  have := sm_one (f := fun j => if f j = v then 1 else 0) (g := fun j => if up_ f i x j = v then 1 else 0) h0 n h (fun j _ _ hj => by simp only [up_n hj])
  simp only [up_s] at this
  exact this
theorem ct_nn (f : Int → Int) (v : Int) (n : Nat) : 0 ≤ ct f v n := sm_nn n (fun j _ _ => by split <;> omega)
theorem ct_pos {f : Int → Int} {v : Int} {n : Nat} (h : 0 < ct f v n) : ∃ j : Int, 0 ≤ j ∧ j < n ∧ f j = v := by
  obtain ⟨j, a, b, c⟩ := sm_pos n h
  refine ⟨j, a, b, ?_⟩
  refine Classical.byContradiction (fun q => ?_)
  simp [q] at c
theorem ct_in {f : Int → Int} {n : Nat} {i : Int} (h0 : 0 ≤ i) (hi : i < n) : 0 < ct f (f i) n := by
  have := sm_part (f := fun j => if f j = f i then 1 else 0) n (fun j _ _ => by split <;> omega) h0 hi
  simp at this
  unfold ct
  omega
end
section
/-! the paths of a graph: n arcs, from F, to T, shut Sh (0: no), goal b; all of them in the order in which a search meets them -/
def dk (n : Nat) : List Int := (List.range n).map (fun (k : Nat) => (k : Int))
theorem dk_len (n : Nat) : (dk n).length = n := by simp [dk]
theorem dk_mem {n : Nat} {k : Int} : k ∈ dk n ↔ 0 ≤ k ∧ k < n := by
  simp only [dk, List.mem_map, List.mem_range]
  constructor
  · rintro ⟨a, h, rfl⟩; omega
  · rintro ⟨h0, h1⟩; exact ⟨k.toNat, by omega, by omega⟩
theorem dk_succ (n : Nat) : dk (n + 1) = dk n ++ [(n : Int)] := by simp [dk, List.range_succ]
theorem dk_drop {n k : Nat} (h : k < n) : (dk n).drop k = (k : Int) :: (dk n).drop (k + 1) := by
  rw [List.drop_eq_getElem_cons (by rw [dk_len]; exact h)]
  simp [dk]
theorem dk_drop_n (n : Nat) : (dk n).drop n = [] := List.drop_eq_nil_of_le (by rw [dk_len]; exact Nat.le_refl _)
/-- what one arc k out of u gives -/
def db (F T Sh : Int → Int) (u : Int) (seen : List Int) (rest : Int → List (List Int)) (k : Int) : List (List Int) :=
  if F k = u ∧ Sh k = 0 ∧ T k ∉ u :: seen then (rest (T k)).map (fun P => k :: P) else []
def df (n : Nat) (F T Sh : Int → Int) (b : Int) : Nat → Int → List Int → List (List Int)
  | 0, u, _ => if u = b then [[]] else []
  | d + 1, u, seen => if u = b then [[]] else (dk n).flatMap (db F T Sh u seen (fun v => df n F T Sh b d v (u :: seen)))
theorem df_b {n : Nat} {F T Sh : Int → Int} {b : Int} (d : Nat) (seen : List Int) : df n F T Sh b d b seen = [[]] := by
  cases d <;> simp [df]
theorem df_s {n : Nat} {F T Sh : Int → Int} {b u : Int} (h : u ≠ b) (d : Nat) (seen : List Int) : df n F T Sh b (d + 1) u seen = (dk n).flatMap (db F T Sh u seen (fun v => df n F T Sh b d v (u :: seen))) := by
  simp [df, h]
/-- P is a path from u to b that comes to no node of seen, and to none twice -/
def vq (n : Nat) (F T Sh : Int → Int) (b : Int) : Int → List Int → List Int → Prop
  | u, _, [] => u = b
  | u, seen, k :: P => u ≠ b ∧ 0 ≤ k ∧ k < n ∧ F k = u ∧ Sh k = 0 ∧ T k ∉ u :: seen ∧ vq n F T Sh b (T k) (u :: seen) P
theorem df_mem {n : Nat} {F T Sh : Int → Int} {b : Int} : ∀ (d : Nat) (u : Int) (seen P : List Int), P ∈ df n F T Sh b d u seen ↔ vq n F T Sh b u seen P ∧ P.length ≤ d := by
  intro d
  induction d with
  | zero =>
    intro u seen P
    by_cases h : u = b
    · cases P with
      | nil => simp [df, h, vq]
      | cons k P => simp [df, h, vq]
    · cases P with
      | nil => simp [df, h, vq]
      | cons k P => simp [df, h, vq]
  | succ d ih =>
    intro u seen P
    by_cases h : u = b
    · subst h
      cases P with
      | nil => simp [df, vq]
      | cons k P => simp [df, vq]
    · rw [df_s h]
      cases P with
      | nil =>
        simp only [vq, h, false_and, iff_false]
        intro hm
        obtain ⟨k, -, hk⟩ := List.mem_flatMap.mp hm
        unfold db at hk
        split at hk
        · obtain ⟨q, -, hq⟩ := List.mem_map.mp hk; cases hq
        · cases hk
      | cons k P =>
        rw [List.mem_flatMap]
        constructor
        · rintro ⟨k', hk', hm⟩
          unfold db at hm
          split at hm
          · next hc =>
            obtain ⟨q, hq, he⟩ := List.mem_map.mp hm
            injection he with e1 e2
            subst e1; subst e2
            obtain ⟨h1, h2⟩ := (ih _ _ _).mp hq
            obtain ⟨g0, g1⟩ := dk_mem.mp hk'
            exact ⟨⟨h, g0, g1, hc.1, hc.2.1, hc.2.2, h1⟩, by simp only [List.length_cons]; omega⟩
          · cases hm
        · rintro ⟨⟨-, g0, g1, c1, c2, c3, hv⟩, hl⟩
          simp only [List.length_cons] at hl
          refine ⟨k, dk_mem.mpr ⟨g0, g1⟩, ?_⟩
          unfold db
          rw [if_pos ⟨c1, c2, c3⟩]
          exact List.mem_map.mpr ⟨P, (ih _ _ _).mpr ⟨hv, by omega⟩, rfl⟩
/-- a path is shorter than there are nodes -/
theorem vq_len {n : Nat} {F T Sh : Int → Int} {b : Int} {N : Nat} (hT : ∀ k : Int, 0 ≤ k → k < n → 0 ≤ T k ∧ T k < N) : ∀ (P : List Int) (u : Int) (seen : List Int), (u :: seen).Nodup → (∀ v, v ∈ u :: seen → 0 ≤ v ∧ v < (N : Int)) → vq n F T Sh b u seen P → P.length + seen.length + 1 ≤ N := by
  intro P
  induction P with
  | nil =>
    intro u seen hn hi _
    have := hn.length_le_of_subset (l₂ := dk N) (fun v hv => dk_mem.mpr (hi v hv))
    rw [dk_len] at this
    simp only [List.length_cons, List.length_nil] at this ⊢
    omega
  | cons k P ih =>
    intro u seen hn hi hv
    obtain ⟨-, g0, g1, -, -, c3, hv⟩ := hv
    have := ih (T k) (u :: seen) (List.nodup_cons.mpr ⟨c3, hn⟩) (fun v hm => by
      rcases List.mem_cons.mp hm with rfl | hm
      · exact hT k g0 g1
      · exact hi v hm) hv
    simp only [List.length_cons] at this ⊢
    omega
/-- the arcs of a path are arcs -/
theorem vq_arcs {n : Nat} {F T Sh : Int → Int} {b : Int} : ∀ (P : List Int) (u : Int) (seen : List Int), vq n F T Sh b u seen P → ∀ k ∈ P, 0 ≤ k ∧ k < n := by
  intro P
  induction P with
  | nil => intro u seen _ k hk; cases hk
  | cons a P ih =>
    intro u seen hv k hk
    obtain ⟨-, g0, g1, -, -, -, hv⟩ := hv
    rcases List.mem_cons.mp hk with rfl | hk
    · exact ⟨g0, g1⟩
    · exact ih _ _ hv k hk
/-! there are 1458 paths at most -/
/-- how many of the first n arcs leave u -/
def dr (F : Int → Int) (u : Int) : Nat → Nat
  | 0 => 0
  | n + 1 => dr F u n + (if F n = u then 1 else 0)
theorem df_cnt {F T Sh : Int → Int} {u : Int} {seen : List Int} {rest : Int → List (List Int)} {B : Nat} (hB : ∀ k : Int, F k = u → T k ∉ u :: seen → (rest (T k)).length ≤ B) : ∀ n : Nat, ((dk n).flatMap (db F T Sh u seen rest)).length ≤ dr F u n * B := by
  intro n
  induction n with
  | zero => simp [dk]
  | succ n ih =>
    rw [dk_succ, List.flatMap_append, List.length_append]
    have h2 : ([(n : Int)].flatMap (db F T Sh u seen rest)).length ≤ (if F n = u then 1 else 0) * B := by
      simp only [List.flatMap_cons, List.flatMap_nil, List.append_nil]
      unfold db
      split
      · next hc =>
        rw [List.length_map, if_pos hc.1, Nat.one_mul]
        exact hB n hc.1 hc.2.2
      · simp
    simp only [dr, Nat.add_mul]
    omega
/-- the product of what leaves each node below m, but those of ex and b -/
def pr_ (F : Int → Int) (n : Nat) (b : Int) (ex : List Int) : Nat → Nat
  | 0 => 1
  | v + 1 => pr_ F n b ex v * (if (v : Int) ∈ ex ∨ (v : Int) = b then 1 else max 1 (dr F v n))
theorem pr_pos {F : Int → Int} {n : Nat} {b : Int} {ex : List Int} : ∀ m : Nat, 1 ≤ pr_ F n b ex m := by
  intro m
  induction m with
  | zero => exact Nat.le_refl _
  | succ m ih =>
    simp only [pr_]
    refine Nat.le_trans ih (Nat.le_mul_of_pos_right _ ?_)
    split <;> omega
theorem pr_skip {F : Int → Int} {n : Nat} {b u : Int} {ex : List Int} : ∀ m : Nat, (m : Int) ≤ u → pr_ F n b (u :: ex) m = pr_ F n b ex m := by
  intro m
  induction m with
  | zero => intro _; rfl
  | succ m ih =>
    intro h
    have hne : ¬ (m : Int) = u := by omega
    simp only [pr_, List.mem_cons, hne, false_or]
    rw [ih (by omega)]
theorem pr_cut {F : Int → Int} {n : Nat} {b u : Int} {ex : List Int} (h1 : u ∉ ex) (h2 : u ≠ b) (h0 : 0 ≤ u) : ∀ m : Nat, u < m → pr_ F n b ex m = max 1 (dr F u n) * pr_ F n b (u :: ex) m := by
  intro m
  induction m with
  | zero => intro h; omega
  | succ m ih =>
    intro h
    by_cases e : u = m
    · subst e
      have hc : ¬ ((m : Int) ∈ ex ∨ (m : Int) = b) := fun q => q.elim h1 h2
      simp only [pr_, hc, if_false, List.mem_cons, true_or, if_true, Nat.mul_one]
      rw [pr_skip m (Int.le_refl _), Nat.mul_comm]
    · have hne : ¬ (m : Int) = u := fun q => e q.symm
      simp only [pr_, List.mem_cons, hne, false_or]
      rw [ih (by omega), Nat.mul_assoc]
theorem df_prod {n : Nat} {F T Sh : Int → Int} {b : Int} (hT : ∀ k : Int, 0 ≤ T k ∧ T k < 8) : ∀ (d : Nat) (u : Int) (seen : List Int), u ∉ seen → 0 ≤ u → u < 8 → (df n F T Sh b d u seen).length ≤ pr_ F n b seen 8 := by
  intro d
  induction d with
  | zero =>
    intro u seen _ _ _
    refine Nat.le_trans ?_ (pr_pos 8)
    simp only [df]
    split <;> simp
  | succ d ih =>
    intro u seen hu h0 h8
    by_cases h : u = b
    · subst h
      rw [df_b]
      exact pr_pos 8
    · rw [df_s h, pr_cut hu h h0 8 (by omega)]
      refine Nat.le_trans (df_cnt (B := pr_ F n b (u :: seen) 8) (fun k _ hk => ih (T k) (u :: seen) hk (hT k).1 (hT k).2) n) ?_
      exact Nat.mul_le_mul_right _ (Nat.le_max_right _ _)
/-- greatest products of k numbers that are s together -/
def tb_ : List (List Nat) := [[1, 1, 1, 1, 1, 1, 1, 1, 1, 1, 1, 1, 1, 1, 1, 1, 1, 1, 1, 1, 1], [1, 1, 2, 3, 4, 5, 6, 7, 8, 9, 10, 11, 12, 13, 14, 15, 16, 17, 18, 19, 20], [1, 1, 2, 3, 4, 6, 9, 12, 16, 20, 25, 30, 36, 42, 49, 56, 64, 72, 81, 90, 100], [1, 1, 2, 3, 4, 6, 9, 12, 18, 27, 36, 48, 64, 80, 100, 125, 150, 180, 216, 252, 294], [1, 1, 2, 3, 4, 6, 9, 12, 18, 27, 36, 54, 81, 108, 144, 192, 256, 320, 400, 500, 625], [1, 1, 2, 3, 4, 6, 9, 12, 18, 27, 36, 54, 81, 108, 162, 243, 324, 432, 576, 768, 1024], [1, 1, 2, 3, 4, 6, 9, 12, 18, 27, 36, 54, 81, 108, 162, 243, 324, 486, 729, 972, 1296], [1, 1, 2, 3, 4, 6, 9, 12, 18, 27, 36, 54, 81, 108, 162, 243, 324, 486, 729, 972, 1458]]
def tb (k s : Nat) : Nat := (tb_.getD k []).getD s 0
theorem tb_step : ∀ k, k < 7 → ∀ s, s < 21 → ∀ d, d < s + 1 → max 1 d * tb k (s - d) ≤ tb (k + 1) s := by decide +kernel
theorem tb_end : ∀ s, s < 21 → tb 7 s ≤ 1458 := by decide +kernel
theorem tb_zero : ∀ s, s < 21 → tb 0 s = 1 := by decide +kernel
/-- how many arcs leave the nodes below m, but b -/
def ds (F : Int → Int) (n : Nat) (b : Int) : Nat → Nat
  | 0 => 0
  | v + 1 => ds F n b v + (if (v : Int) = b then 0 else dr F v n)
theorem ds_le {F : Int → Int} {b : Int} : ∀ n m : Nat, ds F n b m ≤ n := by
  have h1 : ∀ m : Nat, ds F 0 b m = 0 := by
    intro m
    induction m with
    | zero => rfl
    | succ m ih => simp only [ds, ih, dr]; split <;> rfl
  have h2 : ∀ n m : Nat, ds F (n + 1) b m ≤ ds F n b m + (if 0 ≤ F n ∧ F n < m then 1 else 0) := by
    intro n m
    induction m with
    | zero => simp [ds]
    | succ m ih =>
      simp only [ds, dr]
      by_cases e : F n = m
      · have c1 : ¬ (0 ≤ F n ∧ F n < (m : Int)) := by omega
        have c2 : 0 ≤ F n ∧ F n < ((m + 1 : Nat) : Int) := by omega
        rw [if_neg c1] at ih
        rw [if_pos c2, if_pos e]
        split <;> omega
      · rw [if_neg e]
        by_cases c1 : 0 ≤ F n ∧ F n < (m : Int)
        · have c2 : 0 ≤ F n ∧ F n < ((m + 1 : Nat) : Int) := by omega
          rw [if_pos c1] at ih
          rw [if_pos c2]
          split <;> omega
        · have c2 : ¬ (0 ≤ F n ∧ F n < ((m + 1 : Nat) : Int)) := by omega
          rw [if_neg c1] at ih
          rw [if_neg c2]
          split <;> omega
  intro n
  induction n with
  | zero => intro m; rw [h1]; exact Nat.le_refl _
  | succ n ih =>
    intro m
    have := h2 n m
    have := ih m
    split at * <;> omega
/-- how many nodes below m aren't b -/
def nb (b : Int) : Nat → Nat
  | 0 => 0
  | v + 1 => nb b v + (if (v : Int) = b then 0 else 1)
theorem nb_le {b : Int} (h0 : 0 ≤ b) : ∀ m : Nat, nb b m + (if b < m then 1 else 0) = m := by
  intro m
  induction m with
  | zero => simp [nb]; omega
  | succ m ih =>
    simp only [nb]
    by_cases e : (m : Int) = b
    · rw [if_pos e, if_pos (by omega)]
      rw [if_neg (by omega)] at ih
      omega
    · rw [if_neg e]
      by_cases c : b < m
      · rw [if_pos c] at ih
        rw [if_pos (by omega)]
        omega
      · rw [if_neg c] at ih
        rw [if_neg (by omega)]
        omega
theorem pr_tb {F : Int → Int} {n : Nat} {b : Int} (hn : n ≤ 20) (h0 : 0 ≤ b) (h8 : b < 8) : ∀ m : Nat, m ≤ 8 → pr_ F n b [] m ≤ tb (nb b m) (ds F n b m) := by
  intro m
  induction m with
  | zero => intro _; simp only [pr_, nb, ds]; rw [tb_zero 0 (by omega)]; exact Nat.le_refl _
  | succ m ih =>
    intro hm
    have h1 := ih (by omega)
    simp only [pr_, nb, ds, List.not_mem_nil, false_or]
    by_cases e : (m : Int) = b
    · rw [if_pos e, if_pos e, if_pos e, Nat.mul_one, Nat.add_zero, Nat.add_zero]
      exact h1
    · rw [if_neg e, if_neg e, if_neg e]
      have hb := nb_le (b := b) h0 m
      have hb2 := nb_le (b := b) h0 (m + 1)
      have hk : nb b m < 7 := by
        simp only [nb] at hb2
        rw [if_neg e] at hb2
        split at hb2
        · split at hb <;> omega
        · omega
      have hs : ds F n b m + dr F m n < 21 := by
        have := ds_le (F := F) (b := b) n (m + 1)
        simp only [ds] at this
        rw [if_neg e] at this
        omega
      have h2 := tb_step (nb b m) hk (ds F n b m + dr F m n) hs (dr F m n) (by omega)
      rw [Nat.add_sub_cancel] at h2
      refine Nat.le_trans (Nat.mul_le_mul_right _ h1) ?_
      rw [Nat.mul_comm]
      exact h2
theorem df_max {n : Nat} {F T Sh : Int → Int} {b : Int} (hT : ∀ k : Int, 0 ≤ T k ∧ T k < 8) (hn : n ≤ 20) (h0 : 0 ≤ b) (h8 : b < 8) (d : Nat) {u : Int} (hu0 : 0 ≤ u) (hu : u < 8) : (df n F T Sh b d u []).length ≤ 1458 := by
  have h1 := df_prod (n := n) (F := F) (Sh := Sh) (b := b) hT d u [] (by simp) hu0 hu
  have h2 := pr_tb (F := F) (n := n) hn h0 h8 8 (Nat.le_refl _)
  have h3 := nb_le (b := b) h0 8
  rw [if_pos (by omega)] at h3
  have h4 : nb b 8 = 7 := by omega
  rw [h4] at h2
  have h5 := tb_end (ds F n b 8) (by have := ds_le (F := F) (b := b) n 8; omega)
  omega
end
section
/-! a path as one number: its weight, its length, its arcs -/
def wp (W : Int → Int) : List Int → Int
  | [] => 0
  | k :: P => W k + wp W P
theorem wp_app {W : Int → Int} : ∀ (P Q : List Int), wp W (P ++ Q) = wp W P + wp W Q
  | [], Q => by simp [wp]
  | k :: P, Q => by simp only [List.cons_append, wp]; rw [wp_app P Q]; omega
theorem wp_bd {W : Int → Int} (hW : ∀ k, 0 ≤ W k ∧ W k ≤ 1000) : ∀ P : List Int, 0 ≤ wp W P ∧ wp W P ≤ 1000 * P.length
  | [] => by simp [wp]
  | k :: P => by
    have h1 := wp_bd hW P
    have h2 := hW k
    simp only [wp, List.length_cons]
    omega
def rw_ (P : List Int) : Int := P.foldl (fun r k => r * 32 + k) 0
theorem rw_app (P : List Int) (k : Int) : rw_ (P ++ [k]) = rw_ P * 32 + k := by simp [rw_]
def cd (W : Int → Int) (P : List Int) : Int := wp W P * 274877906944 + P.length * 34359738368 + rw_ P * 32 ^ (7 - P.length)
/-- arc i of a number -/
def ar_ (c i : Int) : Int := c / 2 ^ (5 * (6 - i)).toNat % 32
def ok5 (P : List Int) : Prop := P.length ≤ 7 ∧ ∀ k ∈ P, 0 ≤ k ∧ k < 32
theorem rw_bd {P : List Int} (h : ok5 P) : 0 ≤ rw_ P * 32 ^ (7 - P.length) ∧ rw_ P * 32 ^ (7 - P.length) < 34359738368 := by
  obtain ⟨hl, hk⟩ := h
  match P, hl, hk with
  | [], _, _ => simp [rw_]
  | [a], _, hk =>
    have := hk a (by simp)
    simp [rw_]; omega
  | [a, b], _, hk =>
    have := hk a (by simp); have := hk b (by simp)
    simp [rw_]; omega
  | [a, b, c], _, hk =>
    have := hk a (by simp); have := hk b (by simp); have := hk c (by simp)
    simp [rw_]; omega
  | [a, b, c, d], _, hk =>
    have := hk a (by simp); have := hk b (by simp); have := hk c (by simp); have := hk d (by simp)
    simp [rw_]; omega
  | [a, b, c, d, e], _, hk =>
    have := hk a (by simp); have := hk b (by simp); have := hk c (by simp); have := hk d (by simp); have := hk e (by simp)
    simp [rw_]; omega
  | [a, b, c, d, e, f], _, hk =>
    have := hk a (by simp); have := hk b (by simp); have := hk c (by simp); have := hk d (by simp); have := hk e (by simp); have := hk f (by simp)
    simp [rw_]; omega
  | [a, b, c, d, e, f, g], _, hk =>
    have := hk a (by simp); have := hk b (by simp); have := hk c (by simp); have := hk d (by simp); have := hk e (by simp); have := hk f (by simp); have := hk g (by simp)
    simp [rw_]; omega
  | a :: b :: c :: d :: e :: f :: g :: x :: y, hl, _ => simp only [List.length_cons] at hl; omega
theorem cd_w {W : Int → Int} {P : List Int} (h : ok5 P) : cd W P / 274877906944 = wp W P := by
  have h1 := rw_bd h
  have h2 := h.1
  unfold cd
  omega
theorem cd_l {W : Int → Int} {P : List Int} (h : ok5 P) : cd W P / 34359738368 % 8 = P.length := by
  have h1 := rw_bd h
  have h2 := h.1
  unfold cd
  omega
theorem cd_bd {W : Int → Int} (hW : ∀ k, 0 ≤ W k ∧ W k ≤ 1000) {P : List Int} (h : ok5 P) : 0 ≤ cd W P ∧ cd W P < 2251799813685248 := by
  have h1 := rw_bd h
  have h2 := h.1
  have h3 := wp_bd hW P
  unfold cd
  omega
/-- the number's arcs are the path's -/
theorem cd_a {W : Int → Int} {P : List Int} (h : ok5 P) : ∀ i : Nat, i < P.length → ar_ (cd W P) i = P.getD i 0 := by
  obtain ⟨hl, hk⟩ := h
  generalize hw : wp W P = w
  match P, hl, hk with
  | [], _, _ => intro i hi; simp at hi
  | [a], _, hk =>
    have := hk a (by simp)
    intro i hi
    match i, hi with
    | 0, _ => simp only [ar_, cd, hw]; simp [rw_]; omega
    | i + 1, hi => (exfalso; simp only [List.length_cons, List.length_nil] at hi; omega)
  | [a, b], _, hk =>
    have := hk a (by simp); have := hk b (by simp)
    intro i hi
    match i, hi with
    | 0, _ => simp only [ar_, cd, hw]; simp [rw_]; omega
    | 1, _ => simp only [ar_, cd, hw]; simp [rw_]; omega
    | i + 2, hi => (exfalso; simp only [List.length_cons, List.length_nil] at hi; omega)
  | [a, b, c], _, hk =>
    have := hk a (by simp); have := hk b (by simp); have := hk c (by simp)
    intro i hi
    match i, hi with
    | 0, _ => simp only [ar_, cd, hw]; simp [rw_]; omega
    | 1, _ => simp only [ar_, cd, hw]; simp [rw_]; omega
    | 2, _ => simp only [ar_, cd, hw]; simp [rw_]; omega
    | i + 3, hi => (exfalso; simp only [List.length_cons, List.length_nil] at hi; omega)
  | [a, b, c, d], _, hk =>
    have := hk a (by simp); have := hk b (by simp); have := hk c (by simp); have := hk d (by simp)
    intro i hi
    match i, hi with
    | 0, _ => simp only [ar_, cd, hw]; simp [rw_]; omega
    | 1, _ => simp only [ar_, cd, hw]; simp [rw_]; omega
    | 2, _ => simp only [ar_, cd, hw]; simp [rw_]; omega
    | 3, _ => simp only [ar_, cd, hw]; simp [rw_]; omega
    | i + 4, hi => (exfalso; simp only [List.length_cons, List.length_nil] at hi; omega)
  | [a, b, c, d, e], _, hk =>
    have := hk a (by simp); have := hk b (by simp); have := hk c (by simp); have := hk d (by simp); have := hk e (by simp)
    intro i hi
    match i, hi with
    | 0, _ => simp only [ar_, cd, hw]; simp [rw_]; omega
    | 1, _ => simp only [ar_, cd, hw]; simp [rw_]; omega
    | 2, _ => simp only [ar_, cd, hw]; simp [rw_]; omega
    | 3, _ => simp only [ar_, cd, hw]; simp [rw_]; omega
    | 4, _ => simp only [ar_, cd, hw]; simp [rw_]; omega
    | i + 5, hi => (exfalso; simp only [List.length_cons, List.length_nil] at hi; omega)
  | [a, b, c, d, e, f], _, hk =>
    have := hk a (by simp); have := hk b (by simp); have := hk c (by simp); have := hk d (by simp); have := hk e (by simp); have := hk f (by simp)
    intro i hi
    match i, hi with
    | 0, _ => simp only [ar_, cd, hw]; simp [rw_]; omega
    | 1, _ => simp only [ar_, cd, hw]; simp [rw_]; omega
    | 2, _ => simp only [ar_, cd, hw]; simp [rw_]; omega
    | 3, _ => simp only [ar_, cd, hw]; simp [rw_]; omega
    | 4, _ => simp only [ar_, cd, hw]; simp [rw_]; omega
    | 5, _ => simp only [ar_, cd, hw]; simp [rw_]; omega
    | i + 6, hi => (exfalso; simp only [List.length_cons, List.length_nil] at hi; omega)
  | [a, b, c, d, e, f, g], _, hk =>
    have := hk a (by simp); have := hk b (by simp); have := hk c (by simp); have := hk d (by simp); have := hk e (by simp); have := hk f (by simp); have := hk g (by simp)
    intro i hi
    match i, hi with
    | 0, _ => simp only [ar_, cd, hw]; simp [rw_]; omega
    | 1, _ => simp only [ar_, cd, hw]; simp [rw_]; omega
    | 2, _ => simp only [ar_, cd, hw]; simp [rw_]; omega
    | 3, _ => simp only [ar_, cd, hw]; simp [rw_]; omega
    | 4, _ => simp only [ar_, cd, hw]; simp [rw_]; omega
    | 5, _ => simp only [ar_, cd, hw]; simp [rw_]; omega
    | 6, _ => simp only [ar_, cd, hw]; simp [rw_]; omega
    | i + 7, hi => (exfalso; simp only [List.length_cons, List.length_nil] at hi; omega)
  | a :: b :: c :: d :: e :: f :: g :: x :: y, hl, _ => simp only [List.length_cons] at hl; omega
theorem cd_inj {W : Int → Int} {P Q : List Int} (hP : ok5 P) (hQ : ok5 Q) (h : cd W P = cd W Q) : P = Q := by
  have h1 : P.length = Q.length := by
    have a := cd_l (W := W) hP
    have b := cd_l (W := W) hQ
    rw [h, b] at a
    omega
  refine List.ext_getElem h1 (fun i hi hj => ?_)
  have a := cd_a (W := W) hP i hi
  have b := cd_a (W := W) hQ i hj
  rw [h, b] at a
  simp [hi, hj] at a
  exact a.symm
/-- who is ahead: by weight, then length, then row -/
theorem cd_lt {W : Int → Int} {P Q : List Int} (hP : ok5 P) (hQ : ok5 Q) : cd W P < cd W Q ↔ (wp W P < wp W Q ∨ (wp W P = wp W Q ∧ (P.length < Q.length ∨ (P.length = Q.length ∧ rw_ P < rw_ Q)))) := by
  have p1 := rw_bd hP
  have q1 := rw_bd hQ
  have p2 := hP.1
  have q2 := hQ.1
  have key : P.length = Q.length → (rw_ P * 32 ^ (7 - P.length) < rw_ Q * 32 ^ (7 - Q.length) ↔ rw_ P < rw_ Q) := by
    intro e
    rw [e]
    exact Int.mul_lt_mul_right (Int.pow_pos (by omega))
  by_cases e : P.length = Q.length
  · have k := key e
    unfold cd
    generalize rw_ P * 32 ^ (7 - P.length) = x at *
    generalize rw_ Q * 32 ^ (7 - Q.length) = y at *
    constructor
    · intro h
      by_cases c : wp W P < wp W Q
      · exact Or.inl c
      · exact Or.inr ⟨by omega, Or.inr ⟨e, k.mp (by omega)⟩⟩
    · rintro (h | ⟨h1, h | ⟨-, h⟩⟩)
      · omega
      · omega
      · have := k.mpr h; omega
  · unfold cd
    omega
end
section
/-! a heap in an array: the least number first -/
def hp (P : Int → Int) (n : Nat) : Prop := ∀ i : Int, 0 < i → i < n → P ((i - 1) / 2) ≤ P i
theorem hp_min {P : Int → Int} {n : Nat} (h : hp P n) : ∀ (k : Nat) (i : Int), i.toNat ≤ k → 0 ≤ i → i < n → P 0 ≤ P i := by
  intro k
  induction k with
  | zero =>
    intro i hk h0 _
    have : i = 0 := by omega
    rw [this]
    exact Int.le_refl _
  | succ k ih =>
    intro i hk h0 hn
    by_cases e : i = 0
    · rw [e]; exact Int.le_refl _
    · have h1 := h i (by omega) hn
      have h2 := ih ((i - 1) / 2) (by omega) (by omega) (by omega)
      omega
/-- rising: the hole is at q, x is to come there; all is in order but at q -/
def hu (P : Int → Int) (x q : Int) (n : Nat) : Prop :=
  0 ≤ q ∧ q < n ∧ (∀ i : Int, 0 < i → i < n → i ≠ q → up_ P q x ((i - 1) / 2) ≤ up_ P q x i) ∧ (0 < q → ∀ i : Int, 0 < i → i < n → (i - 1) / 2 = q → P ((q - 1) / 2) ≤ P i)
theorem hu_0 {P : Int → Int} {n : Nat} (h : hp P n) (x : Int) : hu P x n (n + 1) := by
  refine ⟨by omega, by omega, fun i h0 hn hq => ?_, fun _ i h0 hn hq => by omega⟩
  rw [up_n (by omega), up_n hq]
  exact h i h0 (by omega)
theorem hu_end {P : Int → Int} {x q : Int} {n : Nat} (h : hu P x q n) (hc : q = 0 ∨ P ((q - 1) / 2) ≤ x) : hp (up_ P q x) n := by
  obtain ⟨h0, h1, h2, -⟩ := h
  intro i hi hn
  by_cases e : i = q
  · subst e
    rcases hc with hc | hc
    · omega
    · rw [up_s, up_n (by omega)]
      exact hc
  · exact h2 i hi hn e
theorem hu_step {P : Int → Int} {x q : Int} {n : Nat} (h : hu P x q n) (h0 : 0 < q) (hc : x < P ((q - 1) / 2)) : hu (up_ P q (P ((q - 1) / 2))) x ((q - 1) / 2) n := by
  obtain ⟨a0, a1, a2, a3⟩ := h
  refine ⟨by omega, by omega, fun i hi hn hq => ?_, fun hp0 i hi hn hq => ?_⟩
  · rw [up_n (j := i) hq]
    by_cases e : i = q
    · subst e
      rw [up_s, up_s]
      omega
    · rw [up_n e]
      by_cases e2 : (i - 1) / 2 = (q - 1) / 2
      · rw [e2, up_s]
        have := a2 i hi hn e
        rw [e2, up_n (by omega), up_n e] at this
        omega
      · rw [up_n e2]
        by_cases e3 : (i - 1) / 2 = q
        · rw [e3, up_s]
          exact a3 h0 i hi hn e3
        · rw [up_n e3]
          have := a2 i hi hn e
          rw [up_n e3, up_n e] at this
          exact this
  · have k1 := a2 ((q - 1) / 2) (by omega) (by omega) (by omega)
    rw [up_n (by omega), up_n (by omega)] at k1
    rw [up_n (j := ((q - 1) / 2 - 1) / 2) (by omega)]
    by_cases e : i = q
    · subst e
      rw [up_s]
      exact k1
    · rw [up_n e]
      have k2 := a2 i hi hn e
      rw [hq, up_n (by omega), up_n e] at k2
      omega
/-- the numbers stay the same when the hole moves -/
theorem hl_move {P : Int → Int} {x q r : Int} {n : Nat} (h0 : 0 ≤ q) (h1 : q < n) (r0 : 0 ≤ r) (r1 : r < n) (hne : q ≠ r) (v : Int) : ct (up_ (up_ P q (P r)) r x) v n = ct (up_ P q x) v n := by
  rw [ct_up v r0 n r1, ct_up v h0 n h1, ct_up v h0 n h1, up_n (fun e => hne e.symm)]
  omega
/-- sinking: the hole is at q, x is to come there; all is in order but below q -/
def hd (P : Int → Int) (x q : Int) (n : Nat) : Prop :=
  0 ≤ q ∧ (∀ i : Int, 0 < i → i < n → (i - 1) / 2 ≠ q → up_ P q x ((i - 1) / 2) ≤ up_ P q x i) ∧ (0 < q → ∀ i : Int, 0 < i → i < n → (i - 1) / 2 = q → P ((q - 1) / 2) ≤ P i)
theorem hd_0 {P : Int → Int} {n : Nat} (h : hp P (n + 1)) (x : Int) : hd P x 0 n := by
  refine ⟨by omega, fun i h0 hn hq => ?_, fun q => by omega⟩
  rw [up_n (by omega), up_n (by omega)]
  exact h i h0 (by omega)
/-- c is the lesser child of q, if there is one -/
def lc (P : Int → Int) (q c : Int) (n : Nat) : Prop := (c = 2 * q + 1 ∨ c = 2 * q + 2) ∧ (c < n → ∀ i : Int, 0 < i → i < n → (i - 1) / 2 = q → P c ≤ P i) ∧ (¬ c < n → ∀ i : Int, 0 < i → i < n → (i - 1) / 2 ≠ q)
theorem hd_end {P : Int → Int} {x q c : Int} {n : Nat} (h : hd P x q n) (hl : lc P q c n) (hc : (n : Int) ≤ c ∨ x ≤ P c) : hp (up_ P q x) n := by
  obtain ⟨h0, h1, h2⟩ := h
  obtain ⟨l0, l1, l2⟩ := hl
  intro i hi hn
  by_cases e : (i - 1) / 2 = q
  · by_cases cn : c < n
    · have := l1 cn i hi hn e
      rw [e, up_s, up_n (by omega)]
      rcases hc with hc | hc <;> omega
    · exact absurd e (l2 cn i hi hn)
  · exact h1 i hi hn e
theorem hd_step {P : Int → Int} {x q c : Int} {n : Nat} (h : hd P x q n) (hl : lc P q c n) (hcn : c < n) (hc : P c < x) : hd (up_ P q (P c)) x c n := by
  obtain ⟨h0, h1, h2⟩ := h
  obtain ⟨l0, l1, l2⟩ := hl
  refine ⟨by omega, fun i hi hn hq => ?_, fun hp0 i hi hn hq => ?_⟩
  · rw [up_n (j := (i - 1) / 2) hq]
    by_cases e : i = c
    · subst e
      have e2 : (i - 1) / 2 = q := by omega
      rw [e2, up_s, up_s]
      omega
    · rw [up_n (j := i) e]
      by_cases e2 : (i - 1) / 2 = q
      · rw [e2, up_s, up_n (by omega)]
        exact l1 hcn i hi hn e2
      · rw [up_n e2]
        by_cases e3 : i = q
        · subst e3
          rw [up_s]
          have := h2 (by omega) c (by omega) hcn (by omega)
          exact this
        · rw [up_n e3]
          have := h1 i hi hn e2
          rw [up_n e2, up_n e3] at this
          exact this
  · have e : (c - 1) / 2 = q := by omega
    rw [e, up_s, up_n (by omega)]
    have := h1 i hi hn (by omega)
    rw [hq, up_n (by omega), up_n (by omega)] at this
    exact this
/-! what comes out of a heap is what a sorted list has -/
theorem hp_first {P : Int → Int} {n : Nat} {a : Int} {l : List Int} (h : hp P n) (hs : (a :: l).Pairwise (fun x y => x ≤ y)) (hc : ∀ v, ct P v n = ((a :: l).count v : Nat)) (hn : 0 < n) : P 0 = a := by
  have h1 : P 0 ∈ a :: l := by
    have := ct_in (f := P) (n := n) (i := 0) (by omega) (by omega)
    rw [hc] at this
    exact List.count_pos_iff.mp (by omega)
  have h2 : a ≤ P 0 := by
    rcases List.mem_cons.mp h1 with e | e
    · omega
    · exact (List.pairwise_cons.mp hs).1 _ e
  have h3 : 0 < ct P a n := by
    rw [hc]
    have : 0 < (a :: l).count a := List.count_pos_iff.mpr (by simp)
    omega
  obtain ⟨j, j0, j1, j2⟩ := ct_pos h3
  have := hp_min h j.toNat j (Nat.le_refl _) j0 j1
  omega
theorem hp_rest {P : Int → Int} {n : Nat} {l : List Int} (hc : ∀ v, ct P v (n + 1) = ((P 0 :: l).count v : Nat)) (hn : 0 < n) (v : Int) : ct (up_ P 0 (P n)) v n = (l.count v : Nat) := by
  rw [ct_up v (by omega) n (by omega)]
  have h1 := hc v
  rw [ct_s] at h1
  rw [List.count_cons] at h1
  simp only [beq_iff_eq] at h1
  split at h1 <;> split at h1 <;> (rename_i c1 c2; simp [c1, c2]; omega)
end
section
/-! the least ways out of a source over edges with room: what the rounds keep -/
def far : Int := 1000000
/-- edge e can't make a way shorter -/
def sa (et eh ec er d : Int → Int) (e : Int) : Prop := er e ≤ 0 ∨ d (et e) = far ∨ d (eh e) ≤ d (et e) + ec e
/-- what is fixed of the edges: E of them, places below 16; p is a price of each place that no edge with room undercuts -/
def ed (E : Nat) (et eh ec er : Int → Int) (p : Int → Int) : Prop := E ≤ 56 ∧ (∀ e : Int, 0 ≤ e → e < E → 0 ≤ et e ∧ et e < 16 ∧ 0 ≤ eh e ∧ eh e < 16 ∧ et e ≠ eh e ∧ -1000 ≤ ec e ∧ ec e ≤ 1000) ∧ (∀ e : Int, 0 ≤ e → e < E → 0 < er e → p (eh e) ≤ ec e + p (et e))
def upw (w : Int → List Int) (i : Int) (l : List Int) : Int → List Int := fun j => if j = i then l else w j
theorem upw_s {w : Int → List Int} {i : Int} {l : List Int} : upw w i l i = l := by simp [upw]
theorem upw_n {w : Int → List Int} {i j : Int} {l : List Int} (h : j ≠ i) : upw w i l j = w j := by simp [upw, h]
/-- of each place that has been come to: wk is a way to it -/
def bw (s : Int) (p d : Int → Int) (wk : Int → List Int) : Prop := ∀ v : Int, 0 ≤ v → v < 16 → d v ≠ far →
  (wk v).Nodup ∧ s ∈ wk v ∧ ∀ x, x ∈ wk v → 0 ≤ x ∧ x < 16 ∧ d x ≠ far ∧ d x + p v - p x ≤ d v
/-- its last edge -/
def bl (E : Nat) (et eh ec er : Int → Int) (s : Int) (d le : Int → Int) (wk : Int → List Int) : Prop := ∀ v : Int, 0 ≤ v → v < 16 → v ≠ s → d v ≠ far →
  0 ≤ le v ∧ le v < E ∧ 0 < er (le v) ∧ eh (le v) = v ∧ d (et (le v)) ≠ far ∧ d (et (le v)) + ec (le v) ≤ d v ∧ (d v = d (et (le v)) + ec (le v) → wk v = v :: wk (et (le v)))
/-- how far the rounds are: in round r, before edge i -/
def br (E : Nat) (et eh ec er d : Int → Int) (wk : Int → List Int) (r : Nat) (i : Int) : Prop := ∀ e : Int, 0 ≤ e → e < E →
  sa et eh ec er d e ∨ (if e < i then r + 1 else r) ≤ (wk (et e)).length
def bd_ (d : Int → Int) (t : Int) : Prop := ∀ v : Int, 0 ≤ v → v < 16 → d v = far ∨ (-1000 * t ≤ d v ∧ d v ≤ 1000 * t)
def BF (E : Nat) (et eh ec er : Int → Int) (s : Int) (p d le : Int → Int) (wk : Int → List Int) (r : Nat) (i t : Int) : Prop :=
  0 ≤ t ∧ 0 ≤ s ∧ s < 16 ∧ d s = 0 ∧ wk s = [s] ∧ bd_ d t ∧ bw s p d wk ∧ bl E et eh ec er s d le wk ∧ br E et eh ec er d wk r i
theorem BF_0 {E : Nat} {et eh ec er : Int → Int} {s : Int} {p d le : Int → Int} (h0 : 0 ≤ s) (h1 : s < 16) (hd : ∀ v : Int, 0 ≤ v → v < 16 → d v = if v = s then 0 else far) : BF E et eh ec er s p d le (fun v => [v]) 1 0 0 := by
  have hs : d s = 0 := by rw [hd s h0 h1, if_pos rfl]
  have hn : ∀ v : Int, 0 ≤ v → v < 16 → d v ≠ far → v = s := by
    intro v a b c
    refine Classical.byContradiction (fun q => c ?_)
    rw [hd v a b, if_neg q]
  refine ⟨by omega, h0, h1, hs, rfl, fun v a b => ?_, fun v a b c => ?_, fun v a b c q => absurd (hn v a b q) c, fun e a b => ?_⟩
  · rw [hd v a b]
    split
    · right; omega
    · left; rfl
  · obtain rfl := hn v a b c
    refine ⟨by simp, by simp, fun x hx => ?_⟩
    have : x = v := by simpa using hx
    subst this
    exact ⟨a, b, c, by omega⟩
  · right
    have : ¬ e < 0 := by omega
    simp [this]
/-- an edge that makes nothing shorter -/
theorem BF_keep {E : Nat} {et eh ec er : Int → Int} {s : Int} {p d le : Int → Int} {wk : Int → List Int} {r : Nat} {i t : Int} (h : BF E et eh ec er s p d le wk r i t) (hs : sa et eh ec er d i) : BF E et eh ec er s p d le wk r (i + 1) (t + 1) := by
  obtain ⟨a0, a1, a2, a3, a4, a5, a6, a7, a8⟩ := h
  refine ⟨by omega, a1, a2, a3, a4, fun v x y => ?_, a6, a7, fun e x y => ?_⟩
  · rcases a5 v x y with z | z
    · exact Or.inl z
    · right; omega
  · by_cases c : e = i
    · subst c; exact Or.inl hs
    · rcases a8 e x y with z | z
      · exact Or.inl z
      · right
        by_cases c1 : e < i
        · rw [if_pos c1] at z
          rw [if_pos (by omega)]
          exact z
        · rw [if_neg c1] at z
          rw [if_neg (by omega)]
          exact z
/-- an edge that does -/
theorem BF_step {E : Nat} {et eh ec er : Int → Int} {s : Int} {p d le : Int → Int} {wk : Int → List Int} {r : Nat} {i t : Int} (hE : ed E et eh ec er p) (h : BF E et eh ec er s p d le wk r i t) (i0 : 0 ≤ i) (i1 : i < E) (ht : t < 900) (hs : ¬ sa et eh ec er d i) :
    BF E et eh ec er s p (up_ d (eh i) (d (et i) + ec i)) (up_ le (eh i) i) (upw wk (eh i) (eh i :: wk (et i))) r (i + 1) (t + 1) := by
  obtain ⟨-, e1, e2⟩ := hE
  obtain ⟨a0, a1, a2, a3, a4, a5, a6, a7, a8⟩ := h
  obtain ⟨u0, u1, v0, v1, uv, c0, c1⟩ := e1 i i0 i1
  have n1 : 0 < er i := by
    refine Classical.byContradiction (fun q => hs (Or.inl (by omega)))
  have n2 : d (et i) ≠ far := fun q => hs (Or.inr (Or.inl q))
  have n3 : d (et i) + ec i < d (eh i) := by
    refine Classical.byContradiction (fun q => hs (Or.inr (Or.inr (by omega))))
  have hp := e2 i i0 i1 n1
  have hr8 := a8 i i0 i1
  rw [if_neg (by omega)] at hr8
  have hr : r ≤ (wk (et i)).length := hr8.resolve_left hs
  generalize hu : et i = u at *
  generalize hv : eh i = v at *
  generalize hc : ec i = c at *
  obtain ⟨w1, w2, w3⟩ := a6 u u0 u1 n2
  have hdu : -1000 * t ≤ d u ∧ d u ≤ 1000 * t := (a5 u u0 u1).resolve_left n2
  have hnew : d u + c ≠ far := by unfold far; omega
  have hvs : v ≠ s := by
    intro q
    have := w3 s w2
    rw [q, a3] at n3
    rw [q] at hp
    rw [a3] at this
    omega
  have hvw : v ∉ wk u := by
    intro q
    have := w3 v q
    omega
  have hlt : ∀ x, up_ d v (d u + c) x ≤ d x := by
    intro x
    by_cases q : x = v
    · subst q; rw [up_s]; omega
    · rw [up_n q]; exact Int.le_refl _
  have hfar : ∀ x, d x ≠ far → up_ d v (d u + c) x ≠ far := by
    intro x hx
    by_cases q : x = v
    · subst q; rw [up_s]; exact hnew
    · rw [up_n q]; exact hx
  refine ⟨by omega, a1, a2, by rw [up_n (fun q => hvs q.symm)]; exact a3, by rw [upw_n (fun q => hvs q.symm)]; exact a4, fun x x0 x1 => ?_, fun x x0 x1 hx => ?_, fun x x0 x1 xs hx => ?_, fun e x0 x1 => ?_⟩
  · by_cases q : x = v
    · subst q; rw [up_s]; right; omega
    · rw [up_n q]
      rcases a5 x x0 x1 with z | z
      · exact Or.inl z
      · right; omega
  · by_cases q : x = v
    · subst q
      rw [upw_s, up_s]
      refine ⟨List.nodup_cons.mpr ⟨hvw, w1⟩, List.mem_cons_of_mem _ w2, fun y hy => ?_⟩
      rcases List.mem_cons.mp hy with rfl | hy
      · rw [up_s]
        exact ⟨x0, x1, hnew, by omega⟩
      · have hyv : y ≠ x := fun z => hvw (z ▸ hy)
        obtain ⟨y0, y1, y2, y3⟩ := w3 y hy
        rw [up_n hyv]
        exact ⟨y0, y1, y2, by omega⟩
    · rw [up_n q] at hx ⊢
      rw [upw_n q]
      obtain ⟨z1, z2, z3⟩ := a6 x x0 x1 hx
      refine ⟨z1, z2, fun y hy => ?_⟩
      obtain ⟨y0, y1, y2, y3⟩ := z3 y hy
      have := hlt y
      exact ⟨y0, y1, hfar y y2, by omega⟩
  · by_cases q : x = v
    · subst q
      rw [up_s, up_s, upw_s]
      rw [hu, hv, hc]
      have huv : u ≠ x := uv
      rw [up_n huv, upw_n huv]
      exact ⟨i0, i1, n1, rfl, n2, Int.le_refl _, fun _ => rfl⟩
    · rw [up_n q] at hx ⊢
      rw [up_n q, upw_n q]
      obtain ⟨z1, z2, z3, z4, z5, z6, z7⟩ := a7 x x0 x1 xs hx
      by_cases q2 : et (le x) = v
      · rw [q2] at z5 z6 ⊢
        rw [up_s]
        exact ⟨z1, z2, z3, z4, hnew, by omega, fun z => by omega⟩
      · rw [up_n q2, upw_n q2]
        exact ⟨z1, z2, z3, z4, z5, z6, z7⟩
  · by_cases q : et e = v
    · right
      rw [q, upw_s, List.length_cons]
      split <;> omega
    · rw [upw_n q]
      by_cases q2 : e = i
      · subst q2
        left
        right; right
        rw [hu, hv, hc, up_s, up_n uv]
        exact Int.le_refl _
      · rcases a8 e x0 x1 with z | z
        · left
          rcases z with z | z | z
          · exact Or.inl z
          · right; left; rw [up_n q]; exact z
          · right; right
            rw [up_n q]
            have := hlt (eh e)
            omega
        · right
          by_cases c1 : e < i
          · rw [if_pos c1] at z
            rw [if_pos (by omega)]
            exact z
          · rw [if_neg c1] at z
            rw [if_neg (by omega)]
            exact z
theorem BF_round {E : Nat} {et eh ec er : Int → Int} {s : Int} {p d le : Int → Int} {wk : Int → List Int} {r : Nat} {t : Int} (h : BF E et eh ec er s p d le wk r E t) : BF E et eh ec er s p d le wk (r + 1) 0 t := by
  obtain ⟨a0, a1, a2, a3, a4, a5, a6, a7, a8⟩ := h
  refine ⟨a0, a1, a2, a3, a4, a5, a6, a7, fun e x y => ?_⟩
  rcases a8 e x y with z | z
  · exact Or.inl z
  · rw [if_pos y] at z
    rw [if_neg (by omega)]
    exact Or.inr z
/-- a way has 16 places at most -/
theorem BF_len {E : Nat} {et eh ec er : Int → Int} {s : Int} {p d le : Int → Int} {wk : Int → List Int} {r : Nat} {i t : Int} (h : BF E et eh ec er s p d le wk r i t) {v : Int} (v0 : 0 ≤ v) (v1 : v < 16) (hv : d v ≠ far) : (wk v).length ≤ 16 := by
  obtain ⟨a0, a1, a2, a3, a4, a5, a6, a7, a8⟩ := h
  obtain ⟨z1, z2, z3⟩ := a6 v v0 v1 hv
  have := z1.length_le_of_subset (l₂ := dk 16) (fun x hx => dk_mem.mpr ⟨(z3 x hx).1, (z3 x hx).2.1⟩)
  rw [dk_len] at this
  exact this
/-- after 16 rounds nothing can be made shorter -/
theorem BF_16 {E : Nat} {et eh ec er : Int → Int} {s : Int} {p d le : Int → Int} {wk : Int → List Int} {i t : Int} (hE : ed E et eh ec er p) (h : BF E et eh ec er s p d le wk 17 i t) : ∀ e : Int, 0 ≤ e → e < E → sa et eh ec er d e := by
  intro e e0 e1
  by_cases q : d (et e) = far
  · exact Or.inr (Or.inl q)
  · obtain ⟨x0, x1, -⟩ := hE.2.1 e e0 e1
    have hl := BF_len h x0 x1 q
    obtain ⟨a0, a1, a2, a3, a4, a5, a6, a7, a8⟩ := h
    rcases a8 e e0 e1 with z | z
    · exact z
    · split at z <;> omega
end
section
/-! edges in pairs: 2 j and its way back 2 j + 1, whose room is what flows; one path more -/
def pt (e : Int) : Int := if e % 2 = 0 then e + 1 else e - 1
def pa (M : Nat) (et eh ec : Int → Int) : Prop := ∀ j : Int, 0 ≤ j → j < M → et (2 * j + 1) = eh (2 * j) ∧ eh (2 * j + 1) = et (2 * j) ∧ ec (2 * j + 1) = - ec (2 * j)
theorem pt_in {M : Nat} {e : Int} (h0 : 0 ≤ e) (h1 : e < (2 * M : Nat)) : 0 ≤ pt e ∧ pt e < (2 * M : Nat) ∧ pt e ≠ e ∧ pt (pt e) = e := by
  unfold pt
  by_cases c : e % 2 = 0
  · rw [if_pos c, if_neg (by omega)]; omega
  · rw [if_neg c, if_pos (by omega)]; omega
theorem pa_pt {M : Nat} {et eh ec : Int → Int} (h : pa M et eh ec) {e : Int} (h0 : 0 ≤ e) (h1 : e < (2 * M : Nat)) : et (pt e) = eh e ∧ eh (pt e) = et e ∧ ec (pt e) = - ec e := by
  unfold pt
  obtain ⟨a, b, c⟩ := h (e / 2) (by omega) (by omega)
  by_cases q : e % 2 = 0
  · have e1 : 2 * (e / 2) = e := by omega
    rw [e1] at a b c
    rw [if_pos q]
    exact ⟨a, b, c⟩
  · have e1 : 2 * (e / 2) = e - 1 := by omega
    have e2 : 2 * (e / 2) + 1 = e := by omega
    rw [e2, e1] at a b c
    rw [if_neg q]
    exact ⟨b.symm, a.symm, by omega⟩
/-- what flows, each pair weighed by g -/
def gs (M : Nat) (er g : Int → Int) : Int := sm (fun j => er (2 * j + 1) * g (2 * j)) M
def ps (er : Int → Int) (e : Int) : Int → Int := up_ (up_ er e (er e - 1)) (pt e) (er (pt e) + 1)
theorem ps_e {er : Int → Int} {e : Int} (h : pt e ≠ e) : ps er e e = er e - 1 := by
  unfold ps
  rw [up_n (fun q => h q.symm), up_s]
theorem ps_p {er : Int → Int} {e : Int} : ps er e (pt e) = er (pt e) + 1 := by
  unfold ps
  rw [up_s]
theorem ps_o {er : Int → Int} {e x : Int} (h1 : x ≠ e) (h2 : x ≠ pt e) : ps er e x = er x := by
  unfold ps
  rw [up_n h2, up_n h1]
theorem gs_push {M : Nat} {er g : Int → Int} {e : Int} (h0 : 0 ≤ e) (h1 : e < (2 * M : Nat)) (hg : ∀ j : Int, 0 ≤ j → j < M → g (2 * j + 1) = - g (2 * j)) : gs M (ps er e) g = gs M er g + g e := by
  obtain ⟨p0, p1, p2, p3⟩ := pt_in h0 h1
  have hj0 : 0 ≤ e / 2 := by omega
  have hj1 : e / 2 < (M : Int) := by omega
  unfold gs
  rw [sm_one (f := fun j => er (2 * j + 1) * g (2 * j)) (i := e / 2) hj0 M hj1 (fun j _ _ hj => by
    show ps er e (2 * j + 1) * g (2 * j) = er (2 * j + 1) * g (2 * j)
    rw [ps_o (by omega) (by unfold pt; split <;> omega)])]
  by_cases q : e % 2 = 0
  · have e1 : 2 * (e / 2) = e := by omega
    have e2 : 2 * (e / 2) + 1 = pt e := by unfold pt; rw [if_pos q]; omega
    have e3 : e + 1 = pt e := by unfold pt; rw [if_pos q]
    simp only [e1, e3]
    rw [ps_p, Int.add_mul]
    omega
  · have e2 : 2 * (e / 2) + 1 = e := by omega
    have hge := hg (e / 2) hj0 hj1
    rw [e2] at hge
    simp only [e2]
    rw [ps_e p2, Int.sub_mul]
    omega
/-- what is kept while the path's edges are taken, from the goal back to q -/
def AU (M : Nat) (et eh ec er0 er d le : Int → Int) (wk : Int → List Int) (s g q : Int) : Prop :=
  0 ≤ q ∧ q < 16 ∧ d q ≠ far ∧ (∀ p : Int → Int, gs M er (fun e => p (et e) - p (eh e)) = gs M er0 (fun e => p (et e) - p (eh e)) + (p q - p g)) ∧ gs M er ec = gs M er0 ec + (d g - d q) ∧
  (∀ e : Int, 0 ≤ e → e < (2 * M : Nat) → 0 ≤ er e) ∧ (∀ j : Int, 0 ≤ j → j < M → er (2 * j) + er (2 * j + 1) = er0 (2 * j) + er0 (2 * j + 1)) ∧
  (∀ e : Int, 0 ≤ e → e < (2 * M : Nat) → 0 < er e → 0 < er0 e ∨ (d (et e) ≠ far ∧ d (eh e) ≠ far ∧ d (eh e) = d (et e) + ec e)) ∧ (∀ x, x ∈ wk q → x ≠ s → er (le x) = er0 (le x))
theorem AU_0 {M : Nat} {et eh ec er d le : Int → Int} {wk : Int → List Int} {s g : Int} (g0 : 0 ≤ g) (g1 : g < 16) (hg : d g ≠ far) (hr : ∀ e : Int, 0 ≤ e → e < (2 * M : Nat) → 0 ≤ er e) : AU M et eh ec er er d le wk s g g :=
  ⟨g0, g1, hg, fun p => by omega, by omega, hr, fun _ _ _ => rfl, fun _ _ _ h => Or.inl h, fun _ _ _ => rfl⟩
/-- each last edge is as long as it must be -/
theorem BF_tight {E : Nat} {et eh ec er : Int → Int} {s : Int} {p d le : Int → Int} {wk : Int → List Int} {r : Nat} {i t : Int} (h : BF E et eh ec er s p d le wk r i t) (hs : ∀ e : Int, 0 ≤ e → e < E → sa et eh ec er d e) {v : Int} (v0 : 0 ≤ v) (v1 : v < 16) (vs : v ≠ s) (hv : d v ≠ far) :
    0 ≤ le v ∧ le v < E ∧ 0 < er (le v) ∧ eh (le v) = v ∧ d (et (le v)) ≠ far ∧ d v = d (et (le v)) + ec (le v) ∧ wk v = v :: wk (et (le v)) := by
  obtain ⟨a0, a1, a2, a3, a4, a5, a6, a7, a8⟩ := h
  obtain ⟨z1, z2, z3, z4, z5, z6, z7⟩ := a7 v v0 v1 vs hv
  have : d v = d (et (le v)) + ec (le v) := by
    rcases hs (le v) z1 z2 with q | q | q
    · omega
    · exact absurd q z5
    · rw [z4] at q; omega
  exact ⟨z1, z2, z3, z4, z5, this, z7 this⟩
theorem AU_step {M : Nat} {et eh ec er0 er : Int → Int} {s g q : Int} {p d le : Int → Int} {wk : Int → List Int} {r : Nat} {i t : Int} (hE : ed (2 * M) et eh ec er0 p) (hM : pa M et eh ec) (h : BF (2 * M) et eh ec er0 s p d le wk r i t) (hs : ∀ e : Int, 0 ≤ e → e < (2 * M : Nat) → sa et eh ec er0 d e)
    (hA : AU M et eh ec er0 er d le wk s g q) (hq : q ≠ s) : AU M et eh ec er0 (ps er (le q)) d le wk s g (et (le q)) ∧ (wk q).length = (wk (et (le q))).length + 1 ∧ 0 ≤ le q ∧ le q < (2 * M : Nat) := by
  obtain ⟨b0, b1, b2, b3, b4, b5, b6, b7, b8⟩ := hA
  obtain ⟨z1, z2, z3, z4, z5, z6, z7⟩ := BF_tight h hs b0 b1 hq b2
  obtain ⟨-, e1, -⟩ := hE
  obtain ⟨t0, t1, -⟩ := e1 (le q) z1 z2
  obtain ⟨p0, p1, p2, p3⟩ := pt_in z1 z2
  obtain ⟨m1, m2, m3⟩ := pa_pt hM z1 z2
  have hqw : q ∈ wk q := by rw [z7]; exact List.mem_cons_self
  have hrm : er (le q) = er0 (le q) := b8 q hqw hq
  have hw := (h.2.2.2.2.2.2.1 q b0 b1 b2).1
  rw [z7] at hw
  have hqn := (List.nodup_cons.mp hw).1
  refine ⟨⟨t0, t1, z5, fun f => ?_, ?_, fun e x0 x1 => ?_, fun j x0 x1 => ?_, fun e x0 x1 hx => ?_, fun x hx hxs => ?_⟩, by rw [z7, List.length_cons], z1, z2⟩
  · rw [gs_push z1 z2 (fun j j0 j1 => by
      obtain ⟨y1, y2, -⟩ := hM j j0 j1
      show f (et (2 * j + 1)) - f (eh (2 * j + 1)) = - (f (et (2 * j)) - f (eh (2 * j)))
      rw [y1, y2]; omega), b3 f, z4]
    omega
  · rw [gs_push z1 z2 (fun j j0 j1 => (hM j j0 j1).2.2), b4]
    omega
  · by_cases c1 : e = le q
    · subst c1; rw [ps_e p2]; omega
    · by_cases c2 : e = pt (le q)
      · subst c2; rw [ps_p]; have := b5 _ p0 p1; omega
      · rw [ps_o c1 c2]; exact b5 e x0 x1
  · rw [← b6 j x0 x1]
    by_cases c1 : 2 * j = le q
    · have c2 : 2 * j + 1 = pt (le q) := by unfold pt; rw [if_pos (by omega)]; omega
      rw [c1] at c2 ⊢
      rw [c2, ps_e p2, ps_p]; omega
    · by_cases c2 : 2 * j + 1 = le q
      · have c3 : 2 * j = pt (le q) := by unfold pt; rw [if_neg (by omega)]; omega
        rw [c2, c3, ps_e p2, ps_p]; omega
      · have c3 : 2 * j ≠ pt (le q) := by unfold pt; split <;> omega
        have c4 : 2 * j + 1 ≠ pt (le q) := by unfold pt; split <;> omega
        rw [ps_o c1 c3, ps_o c2 c4]
  · by_cases c2 : e = pt (le q)
    · subst c2
      right
      rw [m1, m2, m3, z4]
      exact ⟨b2, z5, by omega⟩
    · by_cases c1 : e = le q
      · subst c1
        left
        rw [ps_e p2] at hx
        omega
      · rw [ps_o c1 c2] at hx
        exact b7 e x0 x1 hx
  · have hx2 : x ∈ wk q := by rw [z7]; exact List.mem_cons_of_mem _ hx
    have hxq : x ≠ q := fun c => hqn (c ▸ hx)
    obtain ⟨x0, x1, x2, -⟩ := (h.2.2.2.2.2.2.1 q b0 b1 b2).2.2 x hx2
    obtain ⟨y1, y2, y3, y4, y5, y6, y7⟩ := BF_tight h hs x0 x1 hxs x2
    rw [ps_o, b8 x hx2 hxs]
    · intro c; rw [c, z4] at y4; exact hxq y4.symm
    · intro c
      have k1 : x = et (le q) := by rw [← y4, c, m2]
      have k2 : et (le x) = q := by rw [c, m1, z4]
      rw [k2] at y7
      rw [← k1] at z7
      have l1 := congrArg List.length y7
      have l2 := congrArg List.length z7
      simp only [List.length_cons] at l1 l2
      omega
/-- prices after one path more -/
theorem AU_end {M : Nat} {et eh ec er0 er : Int → Int} {s g : Int} {p d le : Int → Int} {wk : Int → List Int} {r : Nat} {i t : Int} (hE : ed (2 * M) et eh ec er0 p) (ht : t ≤ 900) (h : BF (2 * M) et eh ec er0 s p d le wk r i t) (hs : ∀ e : Int, 0 ≤ e → e < (2 * M : Nat) → sa et eh ec er0 d e)
    (hA : AU M et eh ec er0 er d le wk s g s) : ∃ p' : Int → Int, ed (2 * M) et eh ec er p' := by
  obtain ⟨b0, b1, b2, b3, b4, b5, b6, b7, b8⟩ := hA
  obtain ⟨e0, e1, e2⟩ := hE
  obtain ⟨a0, a1, a2, a3, a4, a5, a6, a7, a8⟩ := h
  refine ⟨fun v => if d v = far then p v + (3000000 + sm (fun v => ((p v).natAbs : Int)) 16) else d v, e0, e1, fun e x0 x1 hx => ?_⟩
  obtain ⟨u0, u1, v0, v1, uv, c0, c1⟩ := e1 e x0 x1
  have hab := sm_part (f := fun v => ((p v).natAbs : Int)) 16 (fun j _ _ => by omega) u0 u1
  have hab : ((p (et e)).natAbs : Int) ≤ sm (fun v => ((p v).natAbs : Int)) 16 := hab
  show (if d (eh e) = far then p (eh e) + (3000000 + sm (fun v => ((p v).natAbs : Int)) 16) else d (eh e)) ≤ ec e + (if d (et e) = far then p (et e) + (3000000 + sm (fun v => ((p v).natAbs : Int)) 16) else d (et e))
  rcases b7 e x0 x1 hx with q | ⟨q1, q2, q3⟩
  · have hp := e2 e x0 x1 q
    by_cases c : d (et e) = far
    · rw [if_pos c]
      by_cases c2 : d (eh e) = far
      · rw [if_pos c2]; omega
      · rw [if_neg c2]
        have := (a5 (eh e) v0 v1).resolve_left c2
        omega
    · have hb := (a5 (et e) u0 u1).resolve_left c
      have hsat : d (eh e) ≤ d (et e) + ec e := by
        rcases hs e x0 x1 with z | z | z
        · omega
        · exact absurd z c
        · exact z
      have c2 : d (eh e) ≠ far := by unfold far; omega
      rw [if_neg c, if_neg c2]
      omega
  · rw [if_neg q1, if_neg q2]; omega
end
section
/-! flows on a graph: x k on arc k, y v through node v; kappa of it from a to b. What a flow keeps, said by any price q of places -/
def GF (n N : Nat) (F T x y : Int → Int) (a b kp : Int) : Prop := ∀ q : Int → Int, sm (fun k => x k * (q (2 * F k + 1) - q (2 * T k))) n + sm (fun v => y v * (q (2 * v) - q (2 * v + 1))) N = kp * (q (2 * a + 1) - q (2 * b))
def bn (n : Nat) (x u : Int → Int) : Prop := ∀ k : Int, 0 ≤ k → k < n → 0 ≤ x k ∧ x k ≤ u k
/-- a price that no part of the flow undercuts -/
def PO (n N : Nat) (F T W x y u z p : Int → Int) : Prop :=
  (∀ k : Int, 0 ≤ k → k < n → (x k < u k → 0 ≤ W k + (p (2 * F k + 1) - p (2 * T k))) ∧ (0 < x k → W k + (p (2 * F k + 1) - p (2 * T k)) ≤ 0)) ∧
  (∀ v : Int, 0 ≤ v → v < N → (y v < z v → 0 ≤ p (2 * v) - p (2 * v + 1)) ∧ (0 < y v → p (2 * v) - p (2 * v + 1) ≤ 0))
theorem mul_up {x x' u c : Int} (h1 : x' ≤ u) (h0 : 0 ≤ x') (hu : x < u → 0 ≤ c) (hd : 0 < x → c ≤ 0) : x * c ≤ x' * c := by
  by_cases e : x < x'
  · exact Int.mul_le_mul_of_nonneg_right (by omega) (hu (by omega))
  · by_cases e2 : x = x'
    · rw [e2]; exact Int.le_refl _
    · have := hd (by omega)
      exact Int.mul_le_mul_of_nonpos_right (by omega) this
theorem gf_opt {n N : Nat} {F T W x y x' y' u z p : Int → Int} {a b kp : Int} (hp : PO n N F T W x y u z p) (h : GF n N F T x y a b kp) (h' : GF n N F T x' y' a b kp) (hx : bn n x' u) (hy : bn N y' z) : sm (fun k => x k * W k) n ≤ sm (fun k => x' k * W k) n := by
  have e1 := h p
  have e2 := h' p
  have k1 := sm_le (f := fun k => x k * (W k + (p (2 * F k + 1) - p (2 * T k)))) (g := fun k => x' k * (W k + (p (2 * F k + 1) - p (2 * T k)))) n (fun k k0 k1 => mul_up (hx k k0 k1).2 (hx k k0 k1).1 (hp.1 k k0 k1).1 (hp.1 k k0 k1).2)
  have k2 := sm_le (f := fun v => y v * (p (2 * v) - p (2 * v + 1))) (g := fun v => y' v * (p (2 * v) - p (2 * v + 1))) N (fun k k0 k1 => mul_up (hy k k0 k1).2 (hy k k0 k1).1 (hp.2 k k0 k1).1 (hp.2 k k0 k1).2)
  have s1 : sm (fun k => x k * (W k + (p (2 * F k + 1) - p (2 * T k)))) n = sm (fun k => x k * W k) n + sm (fun k => x k * (p (2 * F k + 1) - p (2 * T k))) n := by
    rw [← sm_add]; exact sm_congr n (fun k _ _ => Int.mul_add _ _ _)
  have s2 : sm (fun k => x' k * (W k + (p (2 * F k + 1) - p (2 * T k)))) n = sm (fun k => x' k * W k) n + sm (fun k => x' k * (p (2 * F k + 1) - p (2 * T k))) n := by
    rw [← sm_add]; exact sm_congr n (fun k _ _ => Int.mul_add _ _ _)
  omega
/-! cuts -/
def ic (R : Int → Bool) : Int → Int := fun q => if R q = true then 1 else 0
/-- the edge from q to r leaves R -/
def lv2 (R : Int → Bool) (q r c : Int) : Int := if R q = true ∧ R r = false then c else 0
theorem lv2_le {R : Int → Bool} {q r x c : Int} (h0 : 0 ≤ x) (h1 : x ≤ c) : x * (ic R q - ic R r) ≤ lv2 R q r c := by
  unfold ic lv2
  cases R q <;> cases R r <;> simp <;> omega
theorem lv2_eq {R : Int → Bool} {q r x c : Int} (h0 : R q = true → R r = false → x = c) (h1 : R q = false → R r = true → x = 0) : x * (ic R q - ic R r) = lv2 R q r c := by
  unfold ic lv2
  cases e1 : R q <;> cases e2 : R r <;> simp
  · exact h1 e1 e2
  · exact h0 e1 e2
theorem gf_cut {n N : Nat} {F T x y u z : Int → Int} {a b kp : Int} {R : Int → Bool} (h : GF n N F T x y a b kp) (hx : bn n x u) (hy : bn N y z) (hs : R (2 * a + 1) = true) (hg : R (2 * b) = false) : kp ≤ sm (fun k => lv2 R (2 * F k + 1) (2 * T k) (u k)) n + sm (fun v => lv2 R (2 * v) (2 * v + 1) (z v)) N := by
  have e := h (ic R)
  have i1 : ic R (2 * a + 1) = 1 := by simp [ic, hs]
  have i2 : ic R (2 * b) = 0 := by simp [ic, hg]
  rw [i1, i2] at e
  have k1 := sm_le (f := fun k => x k * (ic R (2 * F k + 1) - ic R (2 * T k))) (g := fun k => lv2 R (2 * F k + 1) (2 * T k) (u k)) n (fun k k0 k1 => lv2_le (hx k k0 k1).1 (hx k k0 k1).2)
  have k2 := sm_le (f := fun v => y v * (ic R (2 * v) - ic R (2 * v + 1))) (g := fun v => lv2 R (2 * v) (2 * v + 1) (z v)) N (fun k k0 k1 => lv2_le (hy k k0 k1).1 (hy k k0 k1).2)
  omega
theorem gf_cutE {n N : Nat} {F T x y u z : Int → Int} {a b kp : Int} {R : Int → Bool} (h : GF n N F T x y a b kp) (hs : R (2 * a + 1) = true) (hg : R (2 * b) = false)
    (hx : ∀ k : Int, 0 ≤ k → k < n → (R (2 * F k + 1) = true → R (2 * T k) = false → x k = u k) ∧ (R (2 * F k + 1) = false → R (2 * T k) = true → x k = 0))
    (hy : ∀ v : Int, 0 ≤ v → v < N → (R (2 * v) = true → R (2 * v + 1) = false → y v = z v) ∧ (R (2 * v) = false → R (2 * v + 1) = true → y v = 0)) :
    kp = sm (fun k => lv2 R (2 * F k + 1) (2 * T k) (u k)) n + sm (fun v => lv2 R (2 * v) (2 * v + 1) (z v)) N := by
  have e := h (ic R)
  have i1 : ic R (2 * a + 1) = 1 := by simp [ic, hs]
  have i2 : ic R (2 * b) = 0 := by simp [ic, hg]
  rw [i1, i2] at e
  have k1 := sm_congr (f := fun k => x k * (ic R (2 * F k + 1) - ic R (2 * T k))) (g := fun k => lv2 R (2 * F k + 1) (2 * T k) (u k)) n (fun k k0 k1 => lv2_eq (hx k k0 k1).1 (hx k k0 k1).2)
  have k2 := sm_congr (f := fun v => y v * (ic R (2 * v) - ic R (2 * v + 1))) (g := fun v => lv2 R (2 * v) (2 * v + 1) (z v)) N (fun k k0 k1 => lv2_eq (hy k k0 k1).1 (hy k k0 k1).2)
  omega
/-! out of a flow that isn't nothing: a path along it -/
/-- a way along the flow from w to v -/
def wa (n : Nat) (F T x y : Int → Int) (v : Int) : Int → List Int → Prop
  | w, [] => w = v
  | w, k :: P => 0 ≤ k ∧ k < n ∧ F k = w ∧ 0 < x k ∧ (P = [] ∨ 0 < y (T k)) ∧ wa n F T x y v (T k) P
theorem wa_snoc {n : Nat} {F T x y : Int → Int} {v k : Int} (k0 : 0 ≤ k) (k1 : k < n) (hF : F k = v) (hx : 0 < x k) (hy : 0 < y v) : ∀ (P : List Int) (w : Int), wa n F T x y v w P → P ≠ [] → wa n F T x y (T k) w (P ++ [k]) := by
  intro P
  induction P with
  | nil => intro w _ h; exact absurd rfl h
  | cons j P ih =>
    intro w hw _
    obtain ⟨a0, a1, a2, a3, a4, a5⟩ := hw
    refine ⟨a0, a1, a2, a3, Or.inr ?_, ?_⟩
    · rcases a4 with rfl | a4
      · have : T j = v := a5
        rw [this]; exact hy
      · exact a4
    · by_cases e : P = []
      · subst e
        have : T j = v := a5
        exact ⟨k0, k1, hF.trans this.symm, hx, Or.inl rfl, rfl⟩
      · exact ih (T j) a5 e
/-- the nodes of a way -/
def nl (T : Int → Int) (w : Int) : List Int → List Int
  | [] => [w]
  | k :: P => w :: nl T (T k) P
theorem wa_from {n : Nat} {F T x y : Int → Int} {v : Int} : ∀ (P : List Int) (w c : Int), wa n F T x y v w P → c ∈ nl T w P → ∃ P2, wa n F T x y v c P2 ∧ P2.length ≤ P.length := by
  intro P
  induction P with
  | nil =>
    intro w c hw hc
    have : c = w := by simpa [nl] using hc
    subst this
    exact ⟨[], hw, Nat.le_refl _⟩
  | cons j P ih =>
    intro w c hw hc
    rcases List.mem_cons.mp hc with rfl | hc
    · exact ⟨j :: P, hw, Nat.le_refl _⟩
    · obtain ⟨P2, h1, h2⟩ := ih (T j) c hw.2.2.2.2.2 hc
      exact ⟨P2, h1, by simp only [List.length_cons]; omega⟩
/-- a shortest way has no node twice -/
theorem wa_nodup {n : Nat} {F T x y : Int → Int} {v : Int} : ∀ (P : List Int) (w : Int), wa n F T x y v w P → (∀ P2, wa n F T x y v w P2 → P.length ≤ P2.length) → (nl T w P).Nodup := by
  intro P
  induction P with
  | nil => intro w _ _; simp [nl]
  | cons j P ih =>
    intro w hw hmin
    obtain ⟨a0, a1, a2, a3, a4, a5⟩ := hw
    refine List.nodup_cons.mpr ⟨fun hc => ?_, ih (T j) a5 (fun P2 h2 => ?_)⟩
    · obtain ⟨P2, h1, h2⟩ := wa_from P (T j) w a5 hc
      have := hmin P2 h1
      simp only [List.length_cons] at this
      omega
    · by_cases e : P2 = []
      · subst e
        have hv : T j = v := h2
        have := hmin [j] ⟨a0, a1, a2, a3, Or.inl rfl, hv⟩
        simp only [List.length_cons, List.length_nil] at this ⊢
        omega
      · by_cases hP : P = []
        · subst hP; simp
        · have := hmin (j :: P2) ⟨a0, a1, a2, a3, Or.inr (a4.resolve_left hP), h2⟩
          simp only [List.length_cons] at this
          omega
theorem nl_last {n : Nat} {F T x y : Int → Int} {v : Int} : ∀ (P : List Int) (w : Int), wa n F T x y v w P → v ∈ nl T w P := by
  intro P
  induction P with
  | nil => intro w h; have : w = v := h; subst this; simp [nl]
  | cons j P ih => intro w h; exact List.mem_cons_of_mem _ (ih _ h.2.2.2.2.2)
theorem nl_head {T : Int → Int} (w : Int) (P : List Int) : w ∈ nl T w P := by cases P <;> simp [nl]
/-- a way without a node twice is a path -/
theorem wa_vq {n : Nat} {F T Sh x y : Int → Int} {v : Int} (hS : ∀ k : Int, 0 ≤ k → k < n → 0 < x k → Sh k = 0) : ∀ (P : List Int) (w : Int) (seen : List Int), wa n F T x y v w P → (nl T w P).Nodup → (∀ c, c ∈ nl T w P → c ∉ seen) → vq n F T Sh v w seen P := by
  intro P
  induction P with
  | nil => intro w seen h _ _; exact h
  | cons j P ih =>
    intro w seen h hn hd
    obtain ⟨a0, a1, a2, a3, a4, a5⟩ := h
    obtain ⟨n1, n2⟩ := List.nodup_cons.mp hn
    refine ⟨fun c => n1 (by rw [c]; exact nl_last P _ a5), a0, a1, a2, hS j a0 a1 a3, fun hc => ?_, ih (T j) (w :: seen) a5 n2 (fun c hc hm => ?_)⟩
    · rcases List.mem_cons.mp hc with hc | hc
      · exact n1 (by rw [← hc]; exact nl_head _ _)
      · exact hd (T j) (List.mem_cons_of_mem _ (nl_head _ _)) hc
    · rcases List.mem_cons.mp hm with hm | hm
      · exact n1 (hm ▸ hc)
      · exact hd c (List.mem_cons_of_mem _ hc) hm
theorem wa_pos {n : Nat} {F T x y : Int → Int} {v : Int} : ∀ (P : List Int) (w : Int), wa n F T x y v w P → ∀ k, k ∈ P → 0 < x k := by
  intro P
  induction P with
  | nil => intro w _ k hk; cases hk
  | cons j P ih =>
    intro w h k hk
    obtain ⟨a0, a1, a2, a3, a4, a5⟩ := h
    rcases List.mem_cons.mp hk with rfl | hk
    · exact a3
    · exact ih _ a5 k hk
/-- the nodes that a path goes through: not the first one, not the last one -/
def inn (T : Int → Int) : List Int → List Int
  | [] => []
  | k :: P => if P = [] then [] else T k :: inn T P
theorem wa_inn {n : Nat} {F T x y : Int → Int} {v : Int} : ∀ (P : List Int) (w : Int), wa n F T x y v w P → ∀ c, c ∈ inn T P → 0 < y c := by
  intro P
  induction P with
  | nil => intro w _ c hc; cases hc
  | cons j P ih =>
    intro w h c hc
    obtain ⟨a0, a1, a2, a3, a4, a5⟩ := h
    unfold inn at hc
    split at hc
    · cases hc
    · next hP =>
      rcases List.mem_cons.mp hc with rfl | hc
      · exact a4.resolve_left hP
      · exact ih _ a5 c hc
theorem gf_path {n N : Nat} {F T Sh x y : Int → Int} {a b kp : Int} (h : GF n N F T x y a b kp) (hk : 0 < kp) (hab : a ≠ b) (hx : ∀ k : Int, 0 ≤ k → k < n → 0 ≤ x k) (hy : ∀ v : Int, 0 ≤ v → v < N → 0 ≤ y v) (hS : ∀ k : Int, 0 ≤ k → k < n → 0 < x k → Sh k = 0) (hya : y a = 0) :
    ∃ P, vq n F T Sh b a [] P ∧ (∀ k, k ∈ P → 0 < x k) ∧ (∀ c, c ∈ inn T P → 0 < y c) := by
  -- R: what can be come to
  let re : Int → Prop := fun q => ∃ v P, wa n F T x y v a P ∧ ((q = 2 * v ∧ P ≠ []) ∨ (q = 2 * v + 1 ∧ (P = [] ∨ 0 < y v)))
  let R : Int → Bool := fun q => @decide (re q) (Classical.propDecidable _)
  have hR : ∀ q, R q = true ↔ re q := fun q => @decide_eq_true_iff (re q) (Classical.propDecidable _)
  have hRf : ∀ q, R q = false ↔ ¬ re q := fun q => @decide_eq_false_iff_not (re q) (Classical.propDecidable _)
  have key : ∃ P, wa n F T x y b a P := by
    refine Classical.byContradiction (fun hno => ?_)
    have hs : R (2 * a + 1) = true := (hR _).mpr ⟨a, [], rfl, Or.inr ⟨rfl, Or.inl rfl⟩⟩
    have hg : R (2 * b) = false := by
      refine (hRf _).mpr ?_
      rintro ⟨v, P, hw, ⟨e, -⟩ | ⟨e, -⟩⟩
      · have : v = b := by omega
        subst this
        exact hno ⟨P, hw⟩
      · omega
    have e := h (ic R)
    have i1 : ic R (2 * a + 1) = 1 := by simp [ic, hs]
    have i2 : ic R (2 * b) = 0 := by simp [ic, hg]
    rw [i1, i2] at e
    have k1 := sm_le (f := fun k => x k * (ic R (2 * F k + 1) - ic R (2 * T k))) (g := fun _ => 0) n (fun k k0 k1 => by
      show x k * (ic R (2 * F k + 1) - ic R (2 * T k)) ≤ 0
      by_cases hx0 : x k = 0
      · rw [hx0]; simp
      · have hxp : 0 < x k := by have := hx k k0 k1; omega
        have : ic R (2 * F k + 1) ≤ ic R (2 * T k) := by
          unfold ic
          by_cases c : R (2 * F k + 1) = true
          · have : R (2 * T k) = true := by
              obtain ⟨v, P, hw, ⟨e, hP⟩ | ⟨e, hP⟩⟩ := (hR _).mp c
              · omega
              · have hv : F k = v := by omega
                refine (hR _).mpr ⟨T k, P ++ [k], ?_, Or.inl ⟨rfl, by simp⟩⟩
                by_cases hP0 : P = []
                · subst hP0
                  have : a = v := hw
                  exact ⟨k0, k1, hv.trans this.symm, hxp, Or.inl rfl, rfl⟩
                · exact wa_snoc k0 k1 hv hxp (hP.resolve_left hP0) P a hw hP0
            rw [if_pos c, if_pos this]; exact Int.le_refl _
          · rw [if_neg c]; split <;> omega
        exact Int.mul_nonpos_of_nonneg_of_nonpos (by omega) (by omega))
    have k2 := sm_le (f := fun v => y v * (ic R (2 * v) - ic R (2 * v + 1))) (g := fun _ => 0) N (fun v v0 v1 => by
      show y v * (ic R (2 * v) - ic R (2 * v + 1)) ≤ 0
      by_cases hy0 : y v = 0
      · rw [hy0]; simp
      · have hyp : 0 < y v := by have := hy v v0 v1; omega
        have : ic R (2 * v) ≤ ic R (2 * v + 1) := by
          unfold ic
          by_cases c : R (2 * v) = true
          · have : R (2 * v + 1) = true := by
              obtain ⟨v', P, hw, ⟨e, hP⟩ | ⟨e, hP⟩⟩ := (hR _).mp c
              · have hv : v' = v := by omega
                subst hv
                exact (hR _).mpr ⟨v', P, hw, Or.inr ⟨rfl, Or.inr hyp⟩⟩
              · omega
            rw [if_pos c, if_pos this]; exact Int.le_refl _
          · rw [if_neg c]; split <;> omega
        exact Int.mul_nonpos_of_nonneg_of_nonpos (by omega) (by omega))
    rw [sm_zero] at k1 k2
    omega
  obtain ⟨m, ⟨P, hP, hm⟩, hmin⟩ := pk_least (fun m => ∃ P, wa n F T x y b a P ∧ P.length = m) (by obtain ⟨P, hP⟩ := key; exact ⟨_, P, hP, rfl⟩)
  have hn := wa_nodup P a hP (fun P2 h2 => by
    refine Classical.byContradiction (fun q => hmin P2.length (by omega) ⟨P2, h2, rfl⟩))
  exact ⟨P, wa_vq hS P a [] hP hn (fun c _ hc => by cases hc), wa_pos P a hP, wa_inn P a hP⟩
end
section
/-! a flow falls into paths, and paths make a flow -/
theorem vq_fresh {n : Nat} {F T Sh : Int → Int} {b : Int} : ∀ (P : List Int) (u : Int) (seen : List Int), vq n F T Sh b u seen P → ∀ k, k ∈ P → T k ∉ u :: seen := by
  intro P
  induction P with
  | nil => intro u seen _ k hk; cases hk
  | cons j P ih =>
    intro u seen h k hk
    obtain ⟨a0, a1, a2, a3, a4, a5, a6⟩ := h
    rcases List.mem_cons.mp hk with rfl | hk
    · exact a5
    · exact fun hc => ih _ _ a6 k hk (List.mem_cons_of_mem _ hc)
theorem vq_nodup {n : Nat} {F T Sh : Int → Int} {b : Int} : ∀ (P : List Int) (u : Int) (seen : List Int), vq n F T Sh b u seen P → P.Nodup := by
  intro P
  induction P with
  | nil => intro u seen _; exact List.nodup_nil
  | cons j P ih =>
    intro u seen h
    obtain ⟨a0, a1, a2, a3, a4, a5, a6⟩ := h
    refine List.nodup_cons.mpr ⟨fun hj => ?_, ih _ _ a6⟩
    exact vq_fresh P _ _ a6 j hj List.mem_cons_self
theorem inn_mem {T : Int → Int} : ∀ (P : List Int) (c : Int), c ∈ inn T P → ∃ k, k ∈ P ∧ T k = c := by
  intro P
  induction P with
  | nil => intro c hc; cases hc
  | cons j P ih =>
    intro c hc
    unfold inn at hc
    split at hc
    · cases hc
    · rcases List.mem_cons.mp hc with rfl | hc
      · exact ⟨j, List.mem_cons_self, rfl⟩
      · obtain ⟨k, h1, h2⟩ := ih c hc
        exact ⟨k, List.mem_cons_of_mem _ h1, h2⟩
theorem vq_inn {n : Nat} {F T Sh : Int → Int} {b : Int} : ∀ (P : List Int) (u : Int) (seen : List Int), vq n F T Sh b u seen P → (inn T P).Nodup ∧ b ∉ inn T P ∧ ∀ c, c ∈ inn T P → c ∉ u :: seen := by
  intro P
  induction P with
  | nil => intro u seen _; exact ⟨List.nodup_nil, by simp [inn], fun c hc => by cases hc⟩
  | cons j P ih =>
    intro u seen h
    obtain ⟨a0, a1, a2, a3, a4, a5, a6⟩ := h
    obtain ⟨i1, i2, i3⟩ := ih _ _ a6
    unfold inn
    split
    · exact ⟨List.nodup_nil, by simp, fun c hc => by cases hc⟩
    · next hP =>
      refine ⟨List.nodup_cons.mpr ⟨fun hc => i3 _ hc List.mem_cons_self, i1⟩, fun hc => ?_, fun c hc => ?_⟩
      · rcases List.mem_cons.mp hc with h9 | h9
        · rcases P with _ | ⟨k, P⟩
          · exact hP rfl
          · exact a6.1 h9.symm
        · exact i2 h9
      · rcases List.mem_cons.mp hc with rfl | hc
        · exact a5
        · exact fun q => i3 c hc (List.mem_cons_of_mem _ q)
/-- along a path the prices cancel -/
theorem vq_tele {n : Nat} {F T Sh : Int → Int} {b : Int} (q : Int → Int) : ∀ (P : List Int) (u : Int) (seen : List Int), vq n F T Sh b u seen P → P ≠ [] → wp (fun k => q (2 * F k + 1) - q (2 * T k)) P + wp (fun c => q (2 * c) - q (2 * c + 1)) (inn T P) = q (2 * u + 1) - q (2 * b) := by
  intro P
  induction P with
  | nil => intro u seen _ h; exact absurd rfl h
  | cons j P ih =>
    intro u seen h _
    obtain ⟨a0, a1, a2, a3, a4, a5, a6⟩ := h
    by_cases hP : P = []
    · subst hP
      have e : T j = b := a6
      simp [inn, wp, a3, e]
    · have := ih _ _ a6 hP
      simp only [wp, inn, hP, if_false, a3]
      omega
theorem sm_pick {g : Int → Int} {a : Int} (n : Nat) (h0 : 0 ≤ a) (h1 : a < n) : sm (fun k => if a = k then g k else 0) n = g a := by
  have := sm_one (f := fun _ => 0) (g := fun k => if a = k then g k else 0) h0 n h1 (fun j _ _ hj => by
    show (if a = j then g j else 0) = 0
    rw [if_neg (fun q => hj q.symm)])
  rw [sm_zero] at this
  simpa using this
theorem sm_cnt {g : Int → Int} (n : Nat) : ∀ P : List Int, (∀ k, k ∈ P → 0 ≤ k ∧ k < n) → sm (fun k => (P.count k : Nat) * g k) n = wp g P := by
  intro P
  induction P with
  | nil => intro _; simp only [List.count_nil, wp]; rw [← sm_zero n]; exact sm_congr n (fun _ _ _ => by simp)
  | cons a P ih =>
    intro h
    have h1 := ih (fun k hk => h k (List.mem_cons_of_mem _ hk))
    obtain ⟨a0, a1⟩ := h a List.mem_cons_self
    have e : sm (fun k => ((a :: P).count k : Nat) * g k) n = sm (fun k => (P.count k : Nat) * g k + (if a = k then g k else 0)) n := sm_congr n (fun k _ _ => by
      simp only [List.count_cons, beq_iff_eq]
      split <;> simp [Int.add_mul])
    rw [e, sm_add, h1, sm_pick n a0 a1]
    simp only [wp]
    omega
def tt (f : List Int → Int) : List (List Int) → Int
  | [] => 0
  | P :: L => f P + tt f L
theorem tt_nn {f : List Int → Int} (hf : ∀ P, 0 ≤ f P) : ∀ L, 0 ≤ tt f L
  | [] => Int.le_refl _
  | P :: L => by have := tt_nn hf L; have := hf P; simp only [tt]; omega
theorem tt_mem {f : List Int → Int} (hf : ∀ P, 0 ≤ f P) : ∀ L P, P ∈ L → f P ≤ tt f L
  | Q :: L, P, h => by
    simp only [tt]
    rcases List.mem_cons.mp h with rfl | h
    · have := tt_nn hf L; omega
    · have := tt_mem hf L P h; have := hf Q; omega
theorem gf_split {n N : Nat} {F T Sh W : Int → Int} {a b : Int} (hab : a ≠ b) (hW : ∀ k, 0 ≤ W k) (hT : ∀ k : Int, 0 ≤ k → k < n → 0 ≤ T k ∧ T k < N) : ∀ (kp : Nat) (x y : Int → Int), GF n N F T x y a b kp → (∀ k : Int, 0 ≤ k → k < n → 0 ≤ x k) → (∀ v : Int, 0 ≤ v → v < N → 0 ≤ y v) → (∀ k : Int, 0 ≤ k → k < n → 0 < x k → Sh k = 0) → y a = 0 →
    ∃ Ps : List (List Int), Ps.length = kp ∧ (∀ P, P ∈ Ps → vq n F T Sh b a [] P) ∧ (∀ k : Int, 0 ≤ k → k < n → tt (fun P => (P.count k : Nat)) Ps ≤ x k) ∧ (∀ v : Int, 0 ≤ v → v < N → tt (fun P => ((inn T P).count v : Nat)) Ps ≤ y v) ∧ tt (wp W) Ps ≤ sm (fun k => x k * W k) n := by
  intro kp
  induction kp with
  | zero =>
    intro x y _ hx hy _ _
    exact ⟨[], rfl, (fun P h => by cases h), fun k k0 k1 => hx k k0 k1, fun v v0 v1 => hy v v0 v1, sm_nn n (fun k k0 k1 => Int.mul_nonneg (hx k k0 k1) (hW k))⟩
  | succ kp ih =>
    intro x y h hx hy hS hya
    obtain ⟨P, hP, hPx, hPy⟩ := gf_path h (by omega) hab hx hy hS hya
    have hPn := vq_nodup P a [] hP
    have hPa := vq_arcs P a [] hP
    obtain ⟨i1, i2, i3⟩ := vq_inn P a [] hP
    have hne : P ≠ [] := fun e => by subst e; exact hab hP
    have hin : ∀ c, c ∈ inn T P → 0 ≤ c ∧ c < (N : Int) := fun c hc => by
      obtain ⟨k, h1, h2⟩ := inn_mem P c hc
      rw [← h2]; exact hT k (hPa k h1).1 (hPa k h1).2
    have c1 : ∀ k, (P.count k : Nat) ≤ 1 := fun k => List.nodup_iff_count.mp hPn k
    have c2 : ∀ k, ((inn T P).count k : Nat) ≤ 1 := fun k => List.nodup_iff_count.mp i1 k
    have x1 : ∀ k : Int, 0 ≤ k → k < n → 0 ≤ x k - (P.count k : Nat) := fun k k0 k1 => by
      by_cases hk : k ∈ P
      · have := hPx k hk; have := c1 k; omega
      · have : P.count k = 0 := List.count_eq_zero.mpr hk
        have := hx k k0 k1; omega
    have y1 : ∀ k : Int, 0 ≤ k → k < N → 0 ≤ y k - ((inn T P).count k : Nat) := fun k k0 k1 => by
      by_cases hk : k ∈ inn T P
      · have := hPy k hk; have := c2 k; omega
      · have : (inn T P).count k = 0 := List.count_eq_zero.mpr hk
        have := hy k k0 k1; omega
    have hG : GF n N F T (fun k => x k - (P.count k : Nat)) (fun v => y v - ((inn T P).count v : Nat)) a b kp := by
      intro q
      have e0 := h q
      have e1 := vq_tele q P a [] hP hne
      have s1 : sm (fun k => (x k - (P.count k : Nat)) * (q (2 * F k + 1) - q (2 * T k))) n = sm (fun k => x k * (q (2 * F k + 1) - q (2 * T k))) n - sm (fun k => (P.count k : Nat) * (q (2 * F k + 1) - q (2 * T k))) n := by
        rw [← sm_sub]; exact sm_congr n (fun k _ _ => Int.sub_mul _ _ _)
      have s2 : sm (fun v => (y v - ((inn T P).count v : Nat)) * (q (2 * v) - q (2 * v + 1))) N = sm (fun v => y v * (q (2 * v) - q (2 * v + 1))) N - sm (fun v => ((inn T P).count v : Nat) * (q (2 * v) - q (2 * v + 1))) N := by
        rw [← sm_sub]; exact sm_congr N (fun k _ _ => Int.sub_mul _ _ _)
      rw [s1, s2, sm_cnt (g := fun k => q (2 * F k + 1) - q (2 * T k)) n P hPa, sm_cnt (g := fun c => q (2 * c) - q (2 * c + 1)) N (inn T P) hin]
      have e2 : ((kp + 1 : Nat) : Int) * (q (2 * a + 1) - q (2 * b)) = kp * (q (2 * a + 1) - q (2 * b)) + (q (2 * a + 1) - q (2 * b)) := by
        rw [show ((kp + 1 : Nat) : Int) = (kp : Int) + 1 by omega, Int.add_mul, Int.one_mul]
      rw [e2] at e0
      omega
    have hya' : y a - ((inn T P).count a : Nat) = 0 := by
      have : (inn T P).count a = 0 := List.count_eq_zero.mpr (fun hc => i3 a hc List.mem_cons_self)
      omega
    obtain ⟨Ps, p1, p2, p3, p4, p5⟩ := ih _ _ hG x1 y1 (fun k k0 k1 hk => hS k k0 k1 (by have := c1 k; omega)) hya'
    refine ⟨P :: Ps, by simp [p1], fun Q hQ => ?_, fun k k0 k1 => ?_, fun v v0 v1 => ?_, ?_⟩
    · rcases List.mem_cons.mp hQ with rfl | hQ
      · exact hP
      · exact p2 Q hQ
    · have := p3 k k0 k1; simp only [tt]; omega
    · have := p4 v v0 v1; simp only [tt]; omega
    · have s1 : sm (fun k => (x k - (P.count k : Nat)) * W k) n = sm (fun k => x k * W k) n - sm (fun k => (P.count k : Nat) * W k) n := by
        rw [← sm_sub]; exact sm_congr n (fun k _ _ => Int.sub_mul _ _ _)
      rw [s1, sm_cnt n P hPa] at p5
      simp only [tt]; omega
/-- no arc in common -/
def da (P Q : List Int) : Prop := ∀ k, k ∈ P → k ∉ Q
/-- apart: by = 0 by arcs, else by nodes too -/
def ap (T : Int → Int) (by_ : Int) (P Q : List Int) : Prop := da P Q ∧ (by_ = 1 → da (inn T P) (inn T Q))
theorem da_sym {P Q : List Int} (h : da P Q) : da Q P := fun k h1 h2 => h k h2 h1
theorem ap_sym {T : Int → Int} {by_ : Int} {P Q : List Int} (h : ap T by_ P Q) : ap T by_ Q P := ⟨da_sym h.1, fun e => da_sym (h.2 e)⟩
theorem tt_da {f : List Int → List Int} : ∀ (Ps : List (List Int)), (∀ k, tt (fun P => ((f P).count k : Nat)) Ps ≤ 1) → Ps.Pairwise (fun P Q => da (f P) (f Q)) := by
  intro Ps
  induction Ps with
  | nil => intro _; exact List.Pairwise.nil
  | cons P Ps ih =>
    intro h
    have nn : ∀ k, ∀ P : List Int, (0 : Int) ≤ ((f P).count k : Nat) := fun k P => by omega
    refine List.Pairwise.cons (fun Q hQ k hk hq => ?_) (ih (fun k => ?_))
    · have h1 := h k
      simp only [tt] at h1
      have h2 := tt_mem (f := fun P => ((f P).count k : Nat)) (nn k) Ps Q hQ
      have h3 : 0 < (f P).count k := List.count_pos_iff.mpr hk
      have h4 : 0 < (f Q).count k := List.count_pos_iff.mpr hq
      omega
    · have h1 := h k
      simp only [tt] at h1
      have := nn k P
      omega
/-- paths make a flow -/
theorem gf_join {n N : Nat} {F T Sh : Int → Int} {a b : Int} (hab : a ≠ b) (hT : ∀ k : Int, 0 ≤ k → k < n → 0 ≤ T k ∧ T k < N) : ∀ (Ps : List (List Int)), (∀ P, P ∈ Ps → vq n F T Sh b a [] P) → GF n N F T (fun k => tt (fun P => (P.count k : Nat)) Ps) (fun v => tt (fun P => ((inn T P).count v : Nat)) Ps) a b Ps.length := by
  intro Ps
  induction Ps with
  | nil =>
    intro _ q
    have e1 : sm (fun k => tt (fun P => (P.count k : Nat)) [] * (q (2 * F k + 1) - q (2 * T k))) n = 0 := by
      rw [← sm_zero n]; exact sm_congr n (fun _ _ _ => by simp [tt])
    have e2 : sm (fun v => tt (fun P => ((inn T P).count v : Nat)) [] * (q (2 * v) - q (2 * v + 1))) N = 0 := by
      rw [← sm_zero N]; exact sm_congr N (fun _ _ _ => by simp [tt])
    rw [e1, e2]
    simp
  | cons P Ps ih =>
    intro h q
    have h1 : sm (fun k => tt (fun P => (P.count k : Nat)) Ps * (q (2 * F k + 1) - q (2 * T k))) n + sm (fun v => tt (fun P => ((inn T P).count v : Nat)) Ps * (q (2 * v) - q (2 * v + 1))) N = Ps.length * (q (2 * a + 1) - q (2 * b)) := ih (fun Q hQ => h Q (List.mem_cons_of_mem _ hQ)) q
    have hP := h P List.mem_cons_self
    have hPa := vq_arcs P a [] hP
    have hne : P ≠ [] := fun e => by subst e; exact hab hP
    have hin : ∀ c, c ∈ inn T P → 0 ≤ c ∧ c < (N : Int) := fun c hc => by
      obtain ⟨k, h1, h2⟩ := inn_mem P c hc
      rw [← h2]; exact hT k (hPa k h1).1 (hPa k h1).2
    have e1 := vq_tele q P a [] hP hne
    have s1 : sm (fun k => tt (fun P => (P.count k : Nat)) (P :: Ps) * (q (2 * F k + 1) - q (2 * T k))) n = sm (fun k => (P.count k : Nat) * (q (2 * F k + 1) - q (2 * T k))) n + sm (fun k => tt (fun P => (P.count k : Nat)) Ps * (q (2 * F k + 1) - q (2 * T k))) n := by
      rw [← sm_add]; exact sm_congr n (fun k _ _ => Int.add_mul _ _ _)
    have s2 : sm (fun v => tt (fun P => ((inn T P).count v : Nat)) (P :: Ps) * (q (2 * v) - q (2 * v + 1))) N = sm (fun v => ((inn T P).count v : Nat) * (q (2 * v) - q (2 * v + 1))) N + sm (fun v => tt (fun P => ((inn T P).count v : Nat)) Ps * (q (2 * v) - q (2 * v + 1))) N := by
      rw [← sm_add]; exact sm_congr N (fun k _ _ => Int.add_mul _ _ _)
    rw [s1, s2, sm_cnt (g := fun k => q (2 * F k + 1) - q (2 * T k)) n P hPa, sm_cnt (g := fun c => q (2 * c) - q (2 * c + 1)) N (inn T P) hin]
    have e2 : (((P :: Ps).length : Nat) : Int) * (q (2 * a + 1) - q (2 * b)) = Ps.length * (q (2 * a + 1) - q (2 * b)) + (q (2 * a + 1) - q (2 * b)) := by
      rw [show (((P :: Ps).length : Nat) : Int) = (Ps.length : Int) + 1 by simp, Int.add_mul, Int.one_mul]
    generalize (((P :: Ps).length : Nat) : Int) * (q (2 * a + 1) - q (2 * b)) = z1 at *
    generalize (Ps.length : Int) * (q (2 * a + 1) - q (2 * b)) = z2 at *
    omega
theorem tt_wp {n : Nat} {W : Int → Int} : ∀ (Ps : List (List Int)), (∀ P, P ∈ Ps → ∀ k, k ∈ P → 0 ≤ k ∧ k < n) → sm (fun k => tt (fun P => (P.count k : Nat)) Ps * W k) n = tt (wp W) Ps := by
  intro Ps
  induction Ps with
  | nil => intro _; rw [sm_congr (g := fun _ => 0) n (fun _ _ _ => by simp [tt]), sm_zero]; rfl
  | cons P Ps ih =>
    intro h
    have s1 : sm (fun k => tt (fun P => (P.count k : Nat)) (P :: Ps) * W k) n = sm (fun k => (P.count k : Nat) * W k) n + sm (fun k => tt (fun P => (P.count k : Nat)) Ps * W k) n := by
      rw [← sm_add]; exact sm_congr n (fun k _ _ => Int.add_mul _ _ _)
    rw [s1, sm_cnt n P (h P List.mem_cons_self), ih (fun Q hQ => h Q (List.mem_cons_of_mem _ hQ))]
    simp only [tt]
end
section
/-! the search for c paths that are apart, of least weight together: over a list by rising weight -/
def se (w : List Int → Int) (cf : List Int → List (List Int) → Bool) : List (List Int) → Nat → Int → List (List Int) → Int → Int
  | [], _, _, _, best => best
  | P :: L, c, s, u, best =>
    if best ≠ -1 ∧ best ≤ s + c * w P then best
    else if cf P u = true then se w cf L c s u best
    else if c = 1 then se w cf L c s u (s + w P)
    else se w cf L c s u (se w cf L (c - 1) (s + w P) (P :: u) best)
def okc (T : Int → Int) (by_ : Int) (u Q : List (List Int)) : Prop := (∀ P, P ∈ Q → ∀ R, R ∈ u → ap T by_ R P) ∧ Q.Pairwise (ap T by_)
theorem tt_ge {w : List Int → Int} {c : Int} : ∀ Q : List (List Int), (∀ P, P ∈ Q → c ≤ w P) → Q.length * c ≤ tt w Q
  | [], _ => by simp [tt]
  | P :: Q, h => by
    have h1 := tt_ge Q (fun R hR => h R (List.mem_cons_of_mem _ hR))
    have h2 := h P List.mem_cons_self
    simp only [tt, List.length_cons]
    rw [show ((Q.length + 1 : Nat) : Int) = (Q.length : Int) + 1 by omega, Int.add_mul, Int.one_mul]
    omega
theorem se_spec {T : Int → Int} {by_ : Int} {w : List Int → Int} (hw : ∀ P, 0 ≤ w P) {cf : List Int → List (List Int) → Bool} (hc : ∀ P u, cf P u = false ↔ ∀ R, R ∈ u → ap T by_ R P) : ∀ (L : List (List Int)), L.Pairwise (fun P Q => w P ≤ w Q) → ∀ (c : Nat) (s : Int) (u : List (List Int)) (best : Int), 1 ≤ c → 0 ≤ s → -1 ≤ best →
    -1 ≤ se w cf L c s u best ∧ (best ≠ -1 → se w cf L c s u best ≠ -1 ∧ se w cf L c s u best ≤ best) ∧ (se w cf L c s u best = best ∨ ∃ Q, Q.Sublist L ∧ Q.length = c ∧ okc T by_ u Q ∧ se w cf L c s u best = s + tt w Q) ∧
    (∀ Q, Q.Sublist L → Q.length = c → okc T by_ u Q → se w cf L c s u best ≠ -1 ∧ se w cf L c s u best ≤ s + tt w Q) := by
  intro L
  induction L with
  | nil =>
    intro _ c s u best h1 _ h3
    refine ⟨h3, fun h => ⟨h, Int.le_refl _⟩, Or.inl rfl, fun Q hQ hl _ => ?_⟩
    have : Q = [] := List.sublist_nil.mp hQ
    subst this
    simp at hl
    omega
  | cons P L ih =>
    intro hs c s u best h1 h2 h3
    obtain ⟨s1, s2⟩ := List.pairwise_cons.mp hs
    have ih := ih s2
    have hwP := hw P
    by_cases ce : best ≠ -1 ∧ best ≤ s + c * w P
    · have e : se w cf (P :: L) c s u best = best := by simp only [se]; rw [if_pos ce]
      rw [e]
      refine ⟨h3, fun h => ⟨h, Int.le_refl _⟩, Or.inl rfl, fun Q hQ hl _ => ⟨ce.1, ?_⟩⟩
      have := tt_ge (w := w) (c := w P) Q (fun R hR => by
        rcases List.mem_cons.mp (hQ.subset hR) with rfl | h
        · exact Int.le_refl _
        · exact s1 R h)
      rw [hl] at this
      omega
    · by_cases cc : cf P u = true
      · have e : se w cf (P :: L) c s u best = se w cf L c s u best := by simp only [se]; rw [if_neg ce, if_pos cc]
        rw [e]
        obtain ⟨i0, i1, i2, i3⟩ := ih c s u best h1 h2 h3
        refine ⟨i0, i1, ?_, fun Q hQ hl ho => ?_⟩
        · rcases i2 with h | ⟨Q, q1, q2⟩
          · exact Or.inl h
          · exact Or.inr ⟨Q, q1.cons P, q2⟩
        · cases hQ with
          | cons _ hQ => exact i3 Q hQ hl ho
          | cons_cons _ hQ =>
            have := (hc P u).mpr (fun R hR => ho.1 P List.mem_cons_self R hR)
            rw [this] at cc
            cases cc
      · have cc' : cf P u = false := by cases h : cf P u with
          | true => exact absurd h cc
          | false => rfl
        have hPu := (hc P u).mp cc'
        have hlt : best ≠ -1 → s + c * w P < best := fun h => by
          refine Classical.byContradiction (fun q => ce ⟨h, by omega⟩)
        by_cases c1 : c = 1
        · subst c1
          have e : se w cf (P :: L) 1 s u best = se w cf L 1 s u (s + w P) := by simp only [se]; rw [if_neg ce, if_neg cc, if_pos trivial]
          rw [e]
          obtain ⟨i0, i1, i2, i3⟩ := ih 1 s u (s + w P) h1 h2 (by omega)
          have i1' := i1 (by omega)
          refine ⟨i0, fun h => ⟨i1'.1, ?_⟩, ?_, fun Q hQ hl ho => ?_⟩
          · have := hlt h
            simp only [Int.natCast_one, Int.one_mul] at this
            omega
          · right
            rcases i2 with h | ⟨Q, q1, q2, q3, q4⟩
            · refine ⟨[P], by simp, rfl, ⟨fun R hR => ?_, by simp⟩, by rw [h]; simp [tt]⟩
              have : R = P := by simpa using hR
              subst this
              exact hPu
            · exact ⟨Q, q1.cons P, q2, q3, q4⟩
          · cases hQ with
            | cons _ hQ => exact i3 Q hQ hl ho
            | cons_cons _ hQ =>
              rename_i Q'
              have : Q' = [] := by
                simp only [List.length_cons] at hl
                exact List.eq_nil_of_length_eq_zero (by omega)
              subst this
              simp only [tt]
              exact ⟨i1'.1, by omega⟩
        · have e : se w cf (P :: L) c s u best = se w cf L c s u (se w cf L (c - 1) (s + w P) (P :: u) best) := by simp only [se]; rw [if_neg ce, if_neg cc, if_neg c1]
          rw [e]
          obtain ⟨j0, j1, j2, j3⟩ := ih (c - 1) (s + w P) (P :: u) best (by omega) (by omega) h3
          generalize se w cf L (c - 1) (s + w P) (P :: u) best = r1 at *
          obtain ⟨i0, i1, i2, i3⟩ := ih c s u r1 h1 h2 j0
          refine ⟨i0, fun h => ?_, ?_, fun Q hQ hl ho => ?_⟩
          · obtain ⟨a1, a2⟩ := j1 h
            obtain ⟨b1, b2⟩ := i1 a1
            exact ⟨b1, by omega⟩
          · rcases i2 with h | ⟨Q, q1, q2⟩
            · rcases j2 with h' | ⟨Q, q1, q2, q3, q4⟩
              · left; omega
              · right
                refine ⟨P :: Q, q1.cons_cons P, by simp only [List.length_cons]; omega, ⟨fun R hR S hS => ?_, List.Pairwise.cons (fun R hR => q3.1 R hR P List.mem_cons_self) q3.2⟩, by rw [h]; simp only [tt]; omega⟩
                rcases List.mem_cons.mp hR with rfl | hR
                · exact hPu S hS
                · exact q3.1 R hR S (List.mem_cons_of_mem _ hS)
            · exact Or.inr ⟨Q, q1.cons P, q2⟩
          · cases hQ with
            | cons _ hQ => exact i3 Q hQ hl ho
            | cons_cons _ hQ =>
              rename_i Q'
              simp only [List.length_cons] at hl
              obtain ⟨o1, o2⟩ := List.pairwise_cons.mp ho.2
              obtain ⟨a1, a2⟩ := j3 Q' hQ (by omega) ⟨fun R hR S hS => by
                rcases List.mem_cons.mp hS with rfl | hS
                · exact o1 R hR
                · exact ho.1 R (List.mem_cons_of_mem _ hR) S hS, o2⟩
              obtain ⟨b1, b2⟩ := i1 a1
              simp only [tt]
              exact ⟨b1, by omega⟩
/-- paths of a list, in its order -/
theorem sub_perm {α : Type} [DecidableEq α] : ∀ (R Ps : List α), Ps.Nodup → (∀ P, P ∈ Ps → P ∈ R) → ∃ Q : List α, Q.Sublist R ∧ Q.Perm Ps := by
  intro R
  induction R with
  | nil =>
    intro Ps _ h
    refine ⟨[], List.Sublist.refl _, ?_⟩
    cases Ps with
    | nil => exact List.Perm.refl _
    | cons P Ps => exact absurd (h P List.mem_cons_self) (by simp)
  | cons r R ih =>
    intro Ps hn h
    by_cases c : r ∈ Ps
    · obtain ⟨Q, q1, q2⟩ := ih (Ps.erase r) (hn.erase r) (fun P hP => by
        have hne : P ≠ r := fun e => by subst e; exact (hn.not_mem_erase hP)
        rcases List.mem_cons.mp (h P (List.mem_of_mem_erase hP)) with e | e
        · exact absurd e hne
        · exact e)
      exact ⟨r :: Q, q1.cons_cons r, (q2.cons r).trans (List.perm_cons_erase c).symm⟩
    · obtain ⟨Q, q1, q2⟩ := ih Ps hn (fun P hP => by
        rcases List.mem_cons.mp (h P hP) with e | e
        · exact absurd (e ▸ hP) c
        · exact e)
      exact ⟨Q, q1.cons r, q2⟩
theorem tt_perm {w : List Int → Int} {A B : List (List Int)} (h : A.Perm B) : tt w A = tt w B := by
  induction h with
  | nil => rfl
  | cons x _ ih => simp only [tt]; omega
  | swap x y l => simp only [tt]; omega
  | trans _ _ i1 i2 => exact i1.trans i2
end
section
/-! cuts of a graph: by arcs and by nodes -/
/-- how many arcs go out of the nodes of m -/
def ou (n : Nat) (F T Sh : Int → Int) (m : Int → Bool) : Int := sm (fun k => if Sh k = 0 ∧ m (F k) = true ∧ m (T k) = false then 1 else 0) n
def ua (Sh : Int → Int) (k : Int) : Int := if Sh k = 0 then 1 else 0
def zn (a b c : Int) (v : Int) : Int := if v = a ∨ v = b then 0 else c
theorem ou_le {n : Nat} {F T Sh : Int → Int} {m : Int → Bool} : ou n F T Sh m ≤ n := by
  unfold ou
  have := sm_le (f := fun k => if Sh k = 0 ∧ m (F k) = true ∧ m (T k) = false then 1 else 0) (g := fun _ => 1) n (fun k _ _ => by
    show (if Sh k = 0 ∧ m (F k) = true ∧ m (T k) = false then (1 : Int) else 0) ≤ 1
    split <;> omega)
  have h1 : ∀ n : Nat, sm (fun _ => 1) n = n := by
    intro n
    induction n with
    | zero => rfl
    | succ n ih => simp only [sm]; omega
  rw [h1] at this
  exact this
theorem lv2_v {R : Int → Bool} {q r c : Int} {x y : Bool} (hx : R q = x) (hy : R r = y) : lv2 R q r c = if x = true ∧ y = false then c else 0 := by
  subst hx; subst hy; rfl
theorem cut0_le {n N : Nat} {F T Sh x y : Int → Int} {a b kp c : Int} (h : GF n N F T x y a b kp) (hx : bn n x (ua Sh)) (hy : bn N y (zn a b c)) {m : Int → Bool} (ha : m a = true) (hb : m b = false) : kp ≤ ou n F T Sh m := by
  have r0 : ∀ v, (fun q : Int => m (q / 2)) (2 * v) = m v := fun v => by
    show m (2 * v / 2) = m v
    rw [show 2 * v / 2 = v by omega]
  have r1 : ∀ v, (fun q : Int => m (q / 2)) (2 * v + 1) = m v := fun v => by
    show m ((2 * v + 1) / 2) = m v
    rw [show (2 * v + 1) / 2 = v by omega]
  have h1 := gf_cut (R := fun q => m (q / 2)) h hx hy ((r1 a).trans ha) ((r0 b).trans hb)
  have e1 : sm (fun v => lv2 (fun q => m (q / 2)) (2 * v) (2 * v + 1) (zn a b c v)) N = 0 := by
    rw [← sm_zero N]
    refine sm_congr N (fun v _ _ => ?_)
    rw [lv2_v (R := fun q => m (q / 2)) (q := 2 * v) (r := 2 * v + 1) (r0 v) (r1 v)]
    cases m v <;> simp
  have e2 : sm (fun k => lv2 (fun q => m (q / 2)) (2 * F k + 1) (2 * T k) (ua Sh k)) n = ou n F T Sh m := by
    unfold ou
    refine sm_congr n (fun k _ _ => ?_)
    rw [lv2_v (R := fun q => m (q / 2)) (q := 2 * F k + 1) (r := 2 * T k) (r1 (F k)) (r0 (T k))]
    unfold ua
    by_cases c1 : Sh k = 0
    · simp [c1]
    · simp [c1]
  omega
/-- R: a set of places that no flow can leave any more -/
def shutR (n N : Nat) (F T x y u z : Int → Int) (R : Int → Bool) : Prop :=
  (∀ k : Int, 0 ≤ k → k < n → (R (2 * F k + 1) = true → R (2 * T k) = false → x k = u k) ∧ (R (2 * F k + 1) = false → R (2 * T k) = true → x k = 0)) ∧
  (∀ v : Int, 0 ≤ v → v < N → (R (2 * v) = true → R (2 * v + 1) = false → y v = z v) ∧ (R (2 * v) = false → R (2 * v + 1) = true → y v = 0))
theorem lv2_nn {R : Int → Bool} {q r c : Int} (h : 0 ≤ c) : 0 ≤ lv2 R q r c := by
  unfold lv2
  split <;> omega
theorem cut0_ge {n N : Nat} {F T Sh x y : Int → Int} {a b kp c : Int} (hab : a ≠ b) (hn : (n : Int) ≤ c) (hT : ∀ k : Int, 0 ≤ k → k < n → 0 ≤ T k ∧ T k < N) (h : GF n N F T x y a b kp) {R : Int → Bool} (hR : shutR n N F T x y (ua Sh) (zn a b c) R) (hs : R (2 * a + 1) = true) (hg : R (2 * b) = false) :
    ∃ m : Int → Bool, m a = true ∧ m b = false ∧ ou n F T Sh m ≤ kp := by
  have e := gf_cutE h hs hg hR.1 hR.2
  have hc : ∀ v, 0 ≤ zn a b c v := fun v => by unfold zn; split <;> omega
  have hu : ∀ k, 0 ≤ ua Sh k := fun v => by unfold ua; split <;> omega
  have n1 := sm_nn (f := fun k => lv2 R (2 * F k + 1) (2 * T k) (ua Sh k)) n (fun k _ _ => lv2_nn (hu k))
  have n2 := sm_nn (f := fun v => lv2 R (2 * v) (2 * v + 1) (zn a b c v)) N (fun k _ _ => lv2_nn (hc k))
  refine ⟨fun v => !(decide (v = b)) && R (2 * v + 1), by simp [hab, hs], by simp, ?_⟩
  by_cases q : ∃ v : Int, 0 ≤ v ∧ v < N ∧ v ≠ a ∧ v ≠ b ∧ R (2 * v) = true ∧ R (2 * v + 1) = false
  · obtain ⟨v, v0, v1, va, vb, r1, r2⟩ := q
    have h1 := sm_part (f := fun v => lv2 R (2 * v) (2 * v + 1) (zn a b c v)) N (fun k _ _ => lv2_nn (hc k)) v0 v1
    have h2 : lv2 R (2 * v) (2 * v + 1) (zn a b c v) = c := by simp [lv2, zn, r1, r2, va, vb]
    have := ou_le (n := n) (F := F) (T := T) (Sh := Sh) (m := fun v => !(decide (v = b)) && R (2 * v + 1))
    omega
  · have h1 : ou n F T Sh (fun v => !(decide (v = b)) && R (2 * v + 1)) ≤ sm (fun k => lv2 R (2 * F k + 1) (2 * T k) (ua Sh k)) n := by
      unfold ou
      refine sm_le n (fun k k0 k1 => ?_)
      show (if Sh k = 0 ∧ (!(decide (F k = b)) && R (2 * F k + 1)) = true ∧ (!(decide (T k = b)) && R (2 * T k + 1)) = false then (1 : Int) else 0) ≤ lv2 R (2 * F k + 1) (2 * T k) (ua Sh k)
      split
      · next hc2 =>
        obtain ⟨c1, c2, c3⟩ := hc2
        have f1 : R (2 * F k + 1) = true := by
          simp only [Bool.and_eq_true] at c2; exact c2.2
        have f2 : R (2 * T k) = false := by
          by_cases tb : T k = b
          · rw [tb]; exact hg
          · cases r : R (2 * T k) with
            | false => rfl
            | true =>
              have r2 : R (2 * T k + 1) = false := by simpa [tb] using c3
              by_cases ta : T k = a
              · rw [ta, hs] at r2; cases r2
              · exact absurd ⟨T k, (hT k k0 k1).1, (hT k k0 k1).2, ta, tb, r, r2⟩ q
        simp [lv2, f1, f2, ua, c1]
      · exact lv2_nn (hu k)
    omega
/-! by nodes -/
/-- how many arcs go from a to b at once -/
def di (n : Nat) (F T Sh : Int → Int) (a b : Int) : Int := sm (fun k => if Sh k = 0 ∧ F k = a ∧ T k = b then 1 else 0) n
def mn (N : Nat) (m : Int → Bool) : Int := sm (fun v => if m v = true then 1 else 0) N
/-- g: what is come to from a without the nodes of m, and without the arcs from a to b -/
def clo (n : Nat) (F T Sh : Int → Int) (a b : Int) (m g : Int → Bool) : Prop := g a = true ∧ g b = false ∧ ∀ k : Int, 0 ≤ k → k < n → Sh k = 0 → g (F k) = true → m (T k) = false → ¬ (F k = a ∧ T k = b) → g (T k) = true
theorem cut1_le {n N : Nat} {F T Sh x y : Int → Int} {a b kp : Int} (h : GF n N F T x y a b kp) (hx : bn n x (ua Sh)) (hy : bn N y (zn a b 1)) {m g : Int → Bool} (hg : clo n F T Sh a b m g) (hb : m b = false) : kp ≤ di n F T Sh a b + mn N m := by
  obtain ⟨g1, g2, g3⟩ := hg
  have r0 : ∀ v, (fun q : Int => g (q / 2) || (decide (q % 2 = 0) && m (q / 2))) (2 * v) = (g v || m v) := fun v => by
    show (g (2 * v / 2) || (decide (2 * v % 2 = 0) && m (2 * v / 2))) = (g v || m v)
    rw [show 2 * v / 2 = v by omega, show 2 * v % 2 = 0 by omega]
    simp
  have r1 : ∀ v, (fun q : Int => g (q / 2) || (decide (q % 2 = 0) && m (q / 2))) (2 * v + 1) = g v := fun v => by
    show (g ((2 * v + 1) / 2) || (decide ((2 * v + 1) % 2 = 0) && m ((2 * v + 1) / 2))) = g v
    rw [show (2 * v + 1) / 2 = v by omega, show (2 * v + 1) % 2 = 1 by omega]
    simp
  have h1 := gf_cut (R := fun q => g (q / 2) || (decide (q % 2 = 0) && m (q / 2))) h hx hy ((r1 a).trans g1) ((r0 b).trans (by rw [g2, hb]; rfl))
  have e1 : sm (fun v => lv2 (fun q => g (q / 2) || (decide (q % 2 = 0) && m (q / 2))) (2 * v) (2 * v + 1) (zn a b 1 v)) N ≤ mn N m := by
    unfold mn
    refine sm_le N (fun v _ _ => ?_)
    rw [lv2_v (R := fun q => g (q / 2) || (decide (q % 2 = 0) && m (q / 2))) (q := 2 * v) (r := 2 * v + 1) (r0 v) (r1 v)]
    have hz : zn a b 1 v ≤ 1 := by unfold zn; split <;> omega
    cases m v <;> cases g v <;> simp <;> omega
  have e2 : sm (fun k => lv2 (fun q => g (q / 2) || (decide (q % 2 = 0) && m (q / 2))) (2 * F k + 1) (2 * T k) (ua Sh k)) n ≤ di n F T Sh a b := by
    unfold di
    refine sm_le n (fun k k0 k1 => ?_)
    rw [lv2_v (R := fun q => g (q / 2) || (decide (q % 2 = 0) && m (q / 2))) (q := 2 * F k + 1) (r := 2 * T k) (r1 (F k)) (r0 (T k))]
    by_cases c1 : Sh k = 0
    · by_cases c2 : F k = a ∧ T k = b
      · have hy : Sh k = 0 ∧ F k = a ∧ T k = b := ⟨c1, c2.1, c2.2⟩
        have : ua Sh k = 1 := by simp [ua, c1]
        rw [if_pos hy, this]
        split <;> omega
      · have hn : ¬ (Sh k = 0 ∧ F k = a ∧ T k = b) := fun q => c2 q.2
        rw [if_neg hn, if_neg]
        · exact Int.le_refl _
        · intro hc
          obtain ⟨d1, d2⟩ := hc
          have d3 : g (T k) = false ∧ m (T k) = false := by simpa using d2
          have := g3 k k0 k1 c1 d1 d3.2 c2
          rw [d3.1] at this
          cases this
    · have : ua Sh k = 0 := by simp [ua, c1]
      rw [this]
      split <;> split <;> omega
  omega
noncomputable def cb (p : Prop) : Bool := @decide p (Classical.propDecidable p)
theorem cb_t {p : Prop} : cb p = true ↔ p := @decide_eq_true_iff p (Classical.propDecidable p)
/-- each of the arcs of c has an owner: there are no more owners than arcs -/
theorem own_le {N : Nat} {c : Int → Bool} {o : Int → Int} : ∀ n : Nat, sm (fun v => if cb (∃ k : Int, 0 ≤ k ∧ k < n ∧ c k = true ∧ o k = v) = true then 1 else 0) N ≤ sm (fun k => if c k = true then 1 else 0) n := by
  intro n
  induction n with
  | zero =>
    refine Int.le_trans (sm_le (g := fun _ => 0) N (fun v _ _ => ?_)) (Int.le_of_eq (sm_zero N))
    by_cases q : cb (∃ k : Int, 0 ≤ k ∧ k < (0 : Nat) ∧ c k = true ∧ o k = v) = true
    · obtain ⟨k, k0, k1, -⟩ := cb_t.mp q
      omega
    · simp only [if_neg q]; exact Int.le_refl _
  | succ n ih =>
    have h1 : sm (fun v => if cb (∃ k : Int, 0 ≤ k ∧ k < (n + 1 : Nat) ∧ c k = true ∧ o k = v) = true then 1 else 0) N ≤ sm (fun v => (if cb (∃ k : Int, 0 ≤ k ∧ k < n ∧ c k = true ∧ o k = v) = true then 1 else 0) + (if o n = v then (if c n = true then 1 else 0) else 0)) N := by
      refine sm_le N (fun v _ _ => ?_)
      by_cases q : ∃ k : Int, 0 ≤ k ∧ k < (n + 1 : Nat) ∧ c k = true ∧ o k = v
      · obtain ⟨k, k0, k1, k2, k3⟩ := q
        by_cases e : k = n
        · subst e
          simp only [if_pos k3, if_pos k2]
          split <;> split <;> omega
        · have : cb (∃ k : Int, 0 ≤ k ∧ k < n ∧ c k = true ∧ o k = v) = true := cb_t.mpr ⟨k, k0, by omega, k2, k3⟩
          simp only [if_pos this]
          split <;> split <;> (try split) <;> omega
      · have : ¬ cb (∃ k : Int, 0 ≤ k ∧ k < (n + 1 : Nat) ∧ c k = true ∧ o k = v) = true := fun h => q (cb_t.mp h)
        simp only [if_neg this]
        split <;> split <;> (try split) <;> omega
    rw [sm_add] at h1
    have h2 : sm (fun v => if o n = v then (if c n = true then 1 else 0) else 0) N ≤ if c n = true then 1 else 0 := by
      by_cases r : 0 ≤ o n ∧ o n < N
      · rw [sm_pick (g := fun _ => if c n = true then 1 else 0) N r.1 r.2]
        exact Int.le_refl _
      · have : sm (fun v => if o n = v then (if c n = true then 1 else 0) else 0) N = 0 := by
          rw [sm_congr (g := fun _ => 0) N (fun v v0 v1 => by
            show (if o n = v then (if c n = true then 1 else 0) else 0) = 0
            rw [if_neg (fun e => r (by omega))]), sm_zero]
        rw [this]
        split <;> omega
    simp only [sm]
    omega
theorem cut1_ge {n N : Nat} {F T Sh x y : Int → Int} {a b kp : Int} (hab : a ≠ b) (hT : ∀ k : Int, 0 ≤ k → k < n → 0 ≤ F k ∧ F k < N ∧ 0 ≤ T k ∧ T k < N) (h : GF n N F T x y a b kp) {R : Int → Bool} (hR : shutR n N F T x y (ua Sh) (zn a b 1) R) (hs : R (2 * a + 1) = true) (hg : R (2 * b) = false) :
    ∃ m g : Int → Bool, m a = false ∧ m b = false ∧ clo n F T Sh a b m g ∧ di n F T Sh a b + mn N m ≤ kp := by
  have e := gf_cutE h hs hg hR.1 hR.2
  -- the arcs that leave R, but those from a to b; and who owns each
  let cr : Int → Bool := fun k => decide (Sh k = 0) && R (2 * F k + 1) && !(R (2 * T k)) && !(decide (F k = a ∧ T k = b))
  let ow : Int → Int := fun k => if T k = b then F k else T k
  let X : Int → Bool := fun v => R (2 * v) && !(R (2 * v + 1))
  let Y : Int → Bool := fun v => cb (∃ k : Int, 0 ≤ k ∧ k < n ∧ cr k = true ∧ ow k = v)
  let m : Int → Bool := fun v => !(decide (v = a)) && !(decide (v = b)) && (X v || Y v)
  let g : Int → Bool := fun v => !(decide (v = b)) && R (2 * v + 1) && (decide (v = a) || !(m v))
  have hma : m a = false := by simp [m]
  have hmb : m b = false := by simp [m]
  refine ⟨m, g, hma, hmb, ⟨by simp [g, hab, hs], by simp [g], ?_⟩, ?_⟩
  · intro k k0 k1 c1 c2 c3 c4
    have c2' : (F k ≠ b ∧ R (2 * F k + 1) = true) ∧ (F k = a ∨ m (F k) = false) := by
      simpa [g] using c2
    obtain ⟨⟨f0, f1⟩, f2⟩ := c2'
    have hcr : R (2 * T k) = false → cr k = true := by
      intro r
      have : ¬ (F k = a ∧ T k = b) := c4
      simp [cr, c1, f1, r]
      omega
    by_cases tb : T k = b
    · exfalso
      have r : R (2 * T k) = false := by rw [tb]; exact hg
      have fa : F k ≠ a := fun q => c4 ⟨q, tb⟩
      have hy : Y (F k) = true := cb_t.mpr ⟨k, k0, k1, hcr r, by simp [ow, tb]⟩
      have hm : m (F k) = true := by simp [m, fa, f0, hy]
      rcases f2 with f2 | f2
      · exact fa f2
      · rw [f2] at hm; cases hm
    · by_cases ta : T k = a
      · simp [g, ta, hab, hs]
      · have hY : R (2 * T k) = true := by
          cases r : R (2 * T k) with
          | true => rfl
          | false =>
            exfalso
            have hy : Y (T k) = true := cb_t.mpr ⟨k, k0, k1, hcr r, by simp [ow, tb]⟩
            have hm : m (T k) = true := by simp [m, ta, tb, hy]
            rw [c3] at hm; cases hm
        have hX : R (2 * T k + 1) = true := by
          cases r : R (2 * T k + 1) with
          | true => rfl
          | false =>
            exfalso
            have hx : X (T k) = true := by simp [X, hY, r]
            have hm : m (T k) = true := by simp [m, ta, tb, hx]
            rw [c3] at hm; cases hm
        show (!(decide (T k = b)) && R (2 * T k + 1) && (decide (T k = a) || !(m (T k)))) = true
        simp [tb, hX, c3]
  · have i1 : mn N m ≤ sm (fun v => lv2 R (2 * v) (2 * v + 1) (zn a b 1 v) + (if Y v = true then 1 else 0)) N := by
      unfold mn
      refine sm_le N (fun v _ _ => ?_)
      show (if m v = true then (1 : Int) else 0) ≤ lv2 R (2 * v) (2 * v + 1) (zn a b 1 v) + (if Y v = true then 1 else 0)
      have hz := lv2_nn (R := R) (q := 2 * v) (r := 2 * v + 1) (c := zn a b 1 v) (by unfold zn; split <;> omega)
      by_cases hm : m v = true
      · rw [if_pos hm]
        have hm' : (v ≠ a ∧ v ≠ b) ∧ (X v = true ∨ Y v = true) := by simpa [m] using hm
        obtain ⟨⟨va, vb⟩, hx | hy⟩ := hm'
        · have hx' : R (2 * v) = true ∧ R (2 * v + 1) = false := by simpa [X] using hx
          have : lv2 R (2 * v) (2 * v + 1) (zn a b 1 v) = 1 := by simp [lv2, zn, hx'.1, hx'.2, va, vb]
          split <;> omega
        · rw [if_pos hy]; omega
      · rw [if_neg hm]; split <;> omega
    rw [sm_add] at i1
    have i2 : sm (fun v => if Y v = true then 1 else 0) N ≤ sm (fun k => if cr k = true then 1 else 0) n := own_le n
    have i3 : sm (fun k => if cr k = true then 1 else 0) n + di n F T Sh a b ≤ sm (fun k => lv2 R (2 * F k + 1) (2 * T k) (ua Sh k)) n := by
      unfold di
      rw [← sm_add]
      refine sm_le n (fun k _ _ => ?_)
      show (if cr k = true then (1 : Int) else 0) + (if Sh k = 0 ∧ F k = a ∧ T k = b then 1 else 0) ≤ lv2 R (2 * F k + 1) (2 * T k) (ua Sh k)
      have hz := lv2_nn (R := R) (q := 2 * F k + 1) (r := 2 * T k) (c := ua Sh k) (by unfold ua; split <;> omega)
      by_cases hd : Sh k = 0 ∧ F k = a ∧ T k = b
      · have hc : ¬ cr k = true := by simp [cr, hd.2.1, hd.2.2]
        rw [if_neg hc, if_pos hd]
        have : lv2 R (2 * F k + 1) (2 * T k) (ua Sh k) = 1 := by rw [hd.2.1, hd.2.2]; simp [lv2, ua, hs, hg, hd.1]
        omega
      · rw [if_neg hd]
        by_cases hc : cr k = true
        · have hc' : ((Sh k = 0 ∧ R (2 * F k + 1) = true) ∧ R (2 * T k) = false) ∧ (¬ F k = a ∨ ¬ T k = b) := by simpa [cr] using hc
          rw [if_pos hc]
          have : lv2 R (2 * F k + 1) (2 * T k) (ua Sh k) = 1 := by simp [lv2, ua, hc'.1.1.1, hc'.1.1.2, hc'.1.2]
          omega
        · rw [if_neg hc]; omega
    omega
end
section
/-! the edges that are made of a graph, and its flow read off them -/
/-- how many of the first n arcs are not shut; how many of the first m nodes are neither a nor b -/
def oa (Sh : Int → Int) : Nat → Nat
  | 0 => 0
  | n + 1 => oa Sh n + (if Sh n = 0 then 1 else 0)
def nv (a b : Int) : Nat → Nat
  | 0 => 0
  | m + 1 => nv a b m + (if (m : Int) = a ∨ (m : Int) = b then 0 else 1)
theorem sm_opn {Sh G : Int → Int} : ∀ n : Nat, sm G (oa Sh n) = sm (fun k => if Sh k = 0 then G (oa Sh k.toNat : Nat) else 0) n
  | 0 => rfl
  | n + 1 => by
    simp only [sm, oa]
    rw [← sm_opn n]
    by_cases c : Sh n = 0
    · rw [if_pos c, if_pos c]
      simp only [sm, Int.toNat_natCast]
    · rw [if_neg c, if_neg c]
      simp
theorem sm_node {a b : Int} {G : Int → Int} (c0 : Nat) : ∀ m : Nat, sm G (c0 + nv a b m) = sm G c0 + sm (fun v => if v = a ∨ v = b then 0 else G (c0 + nv a b v.toNat : Nat)) m
  | 0 => by simp [sm, nv]
  | m + 1 => by
    simp only [sm, nv]
    by_cases c : (m : Int) = a ∨ (m : Int) = b
    · rw [if_pos c, if_pos c, Nat.add_zero, sm_node c0 m]
      omega
    · rw [if_neg c, if_neg c]
      rw [show c0 + (nv a b m + 1) = (c0 + nv a b m) + 1 from rfl]
      simp only [sm]
      rw [sm_node c0 m]
      simp only [Int.toNat_natCast]
      omega
theorem oa_mono {Sh : Int → Int} : ∀ {i j : Nat}, i ≤ j → oa Sh i ≤ oa Sh j := by
  intro i j h
  induction h with
  | refl => exact Nat.le_refl _
  | step _ ih => simp only [oa]; split <;> omega
theorem oa_lt {Sh : Int → Int} {i j : Nat} (h : i < j) (hs : Sh i = 0) : oa Sh i < oa Sh j := by
  have := oa_mono (Sh := Sh) (show i + 1 ≤ j from h)
  simp only [oa] at this
  rw [if_pos hs] at this
  omega
theorem oa_le {Sh : Int → Int} : ∀ n : Nat, oa Sh n ≤ n
  | 0 => Nat.le_refl _
  | n + 1 => by have := oa_le (Sh := Sh) n; simp only [oa]; split <;> omega
theorem nv_mono {a b : Int} : ∀ {i j : Nat}, i ≤ j → nv a b i ≤ nv a b j := by
  intro i j h
  induction h with
  | refl => exact Nat.le_refl _
  | step _ ih => simp only [nv]; split <;> omega
theorem nv_lt {a b : Int} {i j : Nat} (h : i < j) (hs : ¬ ((i : Int) = a ∨ (i : Int) = b)) : nv a b i < nv a b j := by
  have := nv_mono (a := a) (b := b) (show i + 1 ≤ j from h)
  simp only [nv] at this
  rw [if_neg hs] at this
  omega
theorem nv_le {a b : Int} : ∀ n : Nat, nv a b n ≤ n
  | 0 => Nat.le_refl _
  | n + 1 => by have := nv_le (a := a) (b := b) n; simp only [nv]; split <;> omega
/-- the edges as they are made: M pairs -/
def NE (n N : Nat) (F T W Sh : Int → Int) (a b : Int) (et eh ec : Int → Int) : Prop :=
  (∀ k : Int, 0 ≤ k → k < n → Sh k = 0 → et (2 * (oa Sh k.toNat : Nat)) = 2 * F k + 1 ∧ eh (2 * (oa Sh k.toNat : Nat)) = 2 * T k ∧ ec (2 * (oa Sh k.toNat : Nat)) = W k) ∧
  (∀ v : Int, 0 ≤ v → v < N → v ≠ a → v ≠ b → et (2 * (oa Sh n + nv a b v.toNat : Nat)) = 2 * v ∧ eh (2 * (oa Sh n + nv a b v.toNat : Nat)) = 2 * v + 1 ∧ ec (2 * (oa Sh n + nv a b v.toNat : Nat)) = 0) ∧
  pa (oa Sh n + nv a b N) et eh ec
/-- their rooms together -/
def CA (n N : Nat) (Sh : Int → Int) (a b c : Int) (er : Int → Int) : Prop :=
  (∀ k : Int, 0 ≤ k → k < n → Sh k = 0 → er (2 * (oa Sh k.toNat : Nat)) + er (2 * (oa Sh k.toNat : Nat) + 1) = 1) ∧
  (∀ v : Int, 0 ≤ v → v < N → v ≠ a → v ≠ b → er (2 * (oa Sh n + nv a b v.toNat : Nat)) + er (2 * (oa Sh n + nv a b v.toNat : Nat) + 1) = c)
def fx (Sh er : Int → Int) (k : Int) : Int := if Sh k = 0 then er (2 * (oa Sh k.toNat : Nat) + 1) else 0
def fy (n : Nat) (Sh : Int → Int) (a b : Int) (er : Int → Int) (v : Int) : Int := if v = a ∨ v = b then 0 else er (2 * (oa Sh n + nv a b v.toNat : Nat) + 1)
section NET
variable {n N : Nat} {F T W Sh : Int → Int} {a b c : Int} {et eh ec er : Int → Int}
theorem ne_gs (h : NE n N F T W Sh a b et eh ec) (q : Int → Int) : gs (oa Sh n + nv a b N) er (fun e => q (et e) - q (eh e)) = sm (fun k => fx Sh er k * (q (2 * F k + 1) - q (2 * T k))) n + sm (fun v => fy n Sh a b er v * (q (2 * v) - q (2 * v + 1))) N := by
  unfold gs
  rw [sm_node, sm_opn]
  congr 1
  · refine sm_congr n (fun k k0 k1 => ?_)
    unfold fx
    by_cases s0 : Sh k = 0
    · rw [if_pos s0, if_pos s0]
      obtain ⟨h1, h2, -⟩ := h.1 k k0 k1 s0
      show er (2 * (oa Sh k.toNat : Nat) + 1) * (q (et (2 * (oa Sh k.toNat : Nat))) - q (eh (2 * (oa Sh k.toNat : Nat)))) = _
      rw [h1, h2]
    · rw [if_neg s0, if_neg s0, Int.zero_mul]
  · refine sm_congr N (fun v v0 v1 => ?_)
    unfold fy
    by_cases s0 : v = a ∨ v = b
    · rw [if_pos s0, if_pos s0, Int.zero_mul]
    · rw [if_neg s0, if_neg s0]
      obtain ⟨h1, h2, -⟩ := h.2.1 v v0 v1 (fun z => s0 (Or.inl z)) (fun z => s0 (Or.inr z))
      show er (2 * (oa Sh n + nv a b v.toNat : Nat) + 1) * (q (et (2 * (oa Sh n + nv a b v.toNat : Nat))) - q (eh (2 * (oa Sh n + nv a b v.toNat : Nat)))) = _
      rw [h1, h2]
theorem ne_cs (h : NE n N F T W Sh a b et eh ec) : gs (oa Sh n + nv a b N) er ec = sm (fun k => fx Sh er k * W k) n := by
  unfold gs
  rw [sm_node, sm_opn]
  have e2 : sm (fun v => if v = a ∨ v = b then 0 else er (2 * (oa Sh n + nv a b v.toNat : Nat) + 1) * ec (2 * (oa Sh n + nv a b v.toNat : Nat))) N = 0 := by
    refine Eq.trans (sm_congr (g := fun _ => 0) N (fun v v0 v1 => ?_)) (sm_zero N)
    by_cases s0 : v = a ∨ v = b
    · rw [if_pos s0]
    · rw [if_neg s0]
      obtain ⟨-, -, h3⟩ := h.2.1 v v0 v1 (fun z => s0 (Or.inl z)) (fun z => s0 (Or.inr z))
      rw [h3, Int.mul_zero]
  rw [e2, Int.add_zero]
  refine sm_congr n (fun k k0 k1 => ?_)
  unfold fx
  by_cases s0 : Sh k = 0
  · rw [if_pos s0, if_pos s0]
    obtain ⟨-, -, h3⟩ := h.1 k k0 k1 s0
    rw [h3]
  · rw [if_neg s0, if_neg s0, Int.zero_mul]
theorem ne_gf (h : NE n N F T W Sh a b et eh ec) {kp : Int} (hf : ∀ q : Int → Int, gs (oa Sh n + nv a b N) er (fun e => q (et e) - q (eh e)) = kp * (q (2 * a + 1) - q (2 * b))) : GF n N F T (fx Sh er) (fy n Sh a b er) a b kp := fun q => by
  rw [← ne_gs h q]
  exact hf q
theorem ja_in {k : Int} (k0 : 0 ≤ k) (k1 : k < n) (hs : Sh k = 0) : (oa Sh k.toNat : Int) < (oa Sh n + nv a b N : Nat) := by
  have := oa_lt (Sh := Sh) (i := k.toNat) (j := n) (by omega) (by rw [Int.toNat_of_nonneg k0]; exact hs)
  omega
theorem jn_in {v : Int} (v0 : 0 ≤ v) (v1 : v < N) (va : v ≠ a) (vb : v ≠ b) : ((oa Sh n + nv a b v.toNat : Nat) : Int) < (oa Sh n + nv a b N : Nat) := by
  have := nv_lt (a := a) (b := b) (i := v.toNat) (j := N) (by omega) (by rw [Int.toNat_of_nonneg v0]; exact fun z => z.elim va vb)
  omega
theorem ne_bx (hr : ∀ e : Int, 0 ≤ e → e < (2 * (oa Sh n + nv a b N) : Nat) → 0 ≤ er e) (hc : CA n N Sh a b c er) : bn n (fx Sh er) (ua Sh) := fun k k0 k1 => by
  unfold fx ua
  by_cases s0 : Sh k = 0
  · rw [if_pos s0, if_pos s0]
    have h1 := hc.1 k k0 k1 s0
    have h2 := ja_in (a := a) (b := b) (N := N) k0 k1 s0
    have h3 := hr (2 * (oa Sh k.toNat : Nat)) (by omega) (by omega)
    have h4 := hr (2 * (oa Sh k.toNat : Nat) + 1) (by omega) (by omega)
    omega
  · rw [if_neg s0, if_neg s0]; omega
theorem ne_by (hr : ∀ e : Int, 0 ≤ e → e < (2 * (oa Sh n + nv a b N) : Nat) → 0 ≤ er e) (hc : CA n N Sh a b c er) : bn N (fy n Sh a b er) (zn a b c) := fun v v0 v1 => by
  unfold fy zn
  by_cases s0 : v = a ∨ v = b
  · rw [if_pos s0, if_pos s0]; omega
  · rw [if_neg s0, if_neg s0]
    have va : v ≠ a := fun z => s0 (Or.inl z)
    have vb : v ≠ b := fun z => s0 (Or.inr z)
    have h1 := hc.2 v v0 v1 va vb
    have h2 := jn_in (Sh := Sh) (n := n) v0 v1 va vb
    have h3 := hr (2 * (oa Sh n + nv a b v.toNat : Nat)) (by omega) (by omega)
    have h4 := hr (2 * (oa Sh n + nv a b v.toNat : Nat) + 1) (by omega) (by omega)
    omega
theorem ne_po (h : NE n N F T W Sh a b et eh ec) (hc : CA n N Sh a b c er) {p : Int → Int} (hp : ∀ e : Int, 0 ≤ e → e < (2 * (oa Sh n + nv a b N) : Nat) → 0 < er e → p (eh e) ≤ ec e + p (et e)) : PO n N F T W (fx Sh er) (fy n Sh a b er) (ua Sh) (zn a b c) p := by
  refine ⟨fun k k0 k1 => ?_, fun v v0 v1 => ?_⟩
  · unfold fx ua
    by_cases s0 : Sh k = 0
    · rw [if_pos s0, if_pos s0]
      obtain ⟨h1, h2, h3⟩ := h.1 k k0 k1 s0
      have g1 := hc.1 k k0 k1 s0
      have g2 := ja_in (a := a) (b := b) (N := N) k0 k1 s0
      obtain ⟨m1, m2, m3⟩ := h.2.2 (oa Sh k.toNat : Nat) (by omega) g2
      have p1 := hp (2 * (oa Sh k.toNat : Nat)) (by omega) (by omega)
      have p2 := hp (2 * (oa Sh k.toNat : Nat) + 1) (by omega) (by omega)
      rw [m1, m2, m3] at p2
      rw [h1, h2, h3] at p1 p2
      exact ⟨fun z => by have := p1 (by omega); omega, fun z => by have := p2 (by omega); omega⟩
    · rw [if_neg s0, if_neg s0]
      exact ⟨fun z => by omega, fun z => by omega⟩
  · unfold fy zn
    by_cases s0 : v = a ∨ v = b
    · rw [if_pos s0, if_pos s0]
      exact ⟨fun z => by omega, fun z => by omega⟩
    · rw [if_neg s0, if_neg s0]
      have va : v ≠ a := fun z => s0 (Or.inl z)
      have vb : v ≠ b := fun z => s0 (Or.inr z)
      obtain ⟨h1, h2, h3⟩ := h.2.1 v v0 v1 va vb
      have g1 := hc.2 v v0 v1 va vb
      have g2 := jn_in (Sh := Sh) (n := n) v0 v1 va vb
      obtain ⟨m1, m2, m3⟩ := h.2.2 (oa Sh n + nv a b v.toNat : Nat) (by omega) g2
      have p1 := hp (2 * (oa Sh n + nv a b v.toNat : Nat)) (by omega) (by omega)
      have p2 := hp (2 * (oa Sh n + nv a b v.toNat : Nat) + 1) (by omega) (by omega)
      rw [m1, m2, m3] at p2
      rw [h1, h2, h3] at p1 p2
      exact ⟨fun z => by have := p1 (by omega); omega, fun z => by have := p2 (by omega); omega⟩
/-- R leaves no edge with room -/
theorem ne_shut (h : NE n N F T W Sh a b et eh ec) (hr : ∀ e : Int, 0 ≤ e → e < (2 * (oa Sh n + nv a b N) : Nat) → 0 ≤ er e) (hc : CA n N Sh a b c er) {R : Int → Bool} (hR : ∀ e : Int, 0 ≤ e → e < (2 * (oa Sh n + nv a b N) : Nat) → 0 < er e → R (et e) = true → R (eh e) = true) : shutR n N F T (fx Sh er) (fy n Sh a b er) (ua Sh) (zn a b c) R := by
  refine ⟨fun k k0 k1 => ?_, fun v v0 v1 => ?_⟩
  · unfold fx ua
    by_cases s0 : Sh k = 0
    · rw [if_pos s0, if_pos s0]
      obtain ⟨h1, h2, h3⟩ := h.1 k k0 k1 s0
      have g1 := hc.1 k k0 k1 s0
      have g2 := ja_in (a := a) (b := b) (N := N) k0 k1 s0
      obtain ⟨m1, m2, m3⟩ := h.2.2 (oa Sh k.toNat : Nat) (by omega) g2
      have r1 := hr (2 * (oa Sh k.toNat : Nat)) (by omega) (by omega)
      have r2 := hr (2 * (oa Sh k.toNat : Nat) + 1) (by omega) (by omega)
      have p1 := hR (2 * (oa Sh k.toNat : Nat)) (by omega) (by omega)
      have p2 := hR (2 * (oa Sh k.toNat : Nat) + 1) (by omega) (by omega)
      rw [m1, m2] at p2
      rw [h1, h2] at p1 p2
      refine ⟨fun z1 z2 => ?_, fun z1 z2 => ?_⟩
      · refine Classical.byContradiction (fun q => ?_)
        rw [p1 (by omega) z1] at z2; cases z2
      · refine Classical.byContradiction (fun q => ?_)
        rw [p2 (by omega) z2] at z1; cases z1
    · rw [if_neg s0, if_neg s0]
      exact ⟨fun _ _ => rfl, fun _ _ => rfl⟩
  · unfold fy zn
    by_cases s0 : v = a ∨ v = b
    · rw [if_pos s0, if_pos s0]
      exact ⟨fun _ _ => rfl, fun _ _ => rfl⟩
    · rw [if_neg s0, if_neg s0]
      have va : v ≠ a := fun z => s0 (Or.inl z)
      have vb : v ≠ b := fun z => s0 (Or.inr z)
      obtain ⟨h1, h2, h3⟩ := h.2.1 v v0 v1 va vb
      have g1 := hc.2 v v0 v1 va vb
      have g2 := jn_in (Sh := Sh) (n := n) v0 v1 va vb
      obtain ⟨m1, m2, m3⟩ := h.2.2 (oa Sh n + nv a b v.toNat : Nat) (by omega) g2
      have r1 := hr (2 * (oa Sh n + nv a b v.toNat : Nat)) (by omega) (by omega)
      have r2 := hr (2 * (oa Sh n + nv a b v.toNat : Nat) + 1) (by omega) (by omega)
      have p1 := hR (2 * (oa Sh n + nv a b v.toNat : Nat)) (by omega) (by omega)
      have p2 := hR (2 * (oa Sh n + nv a b v.toNat : Nat) + 1) (by omega) (by omega)
      rw [m1, m2] at p2
      rw [h1, h2] at p1 p2
      refine ⟨fun z1 z2 => ?_, fun z1 z2 => ?_⟩
      · refine Classical.byContradiction (fun q => ?_)
        rw [p1 (by omega) z1] at z2; cases z2
      · refine Classical.byContradiction (fun q => ?_)
        rw [p2 (by omega) z2] at z1; cases z1
end NET
end
section
/-! what the flow's cost is: the least weight of paths that are apart -/
def FI (n N : Nat) (F T W Sh : Int → Int) (a b c : Int) (et eh ec er : Int → Int) (kp tot : Int) : Prop :=
  NE n N F T W Sh a b et eh ec ∧ (∀ e : Int, 0 ≤ e → e < (2 * (oa Sh n + nv a b N) : Nat) → 0 ≤ er e) ∧ CA n N Sh a b c er ∧
  (∀ q : Int → Int, gs (oa Sh n + nv a b N) er (fun e => q (et e) - q (eh e)) = kp * (q (2 * a + 1) - q (2 * b))) ∧ gs (oa Sh n + nv a b N) er ec = tot ∧ ∃ p, ed (2 * (oa Sh n + nv a b N)) et eh ec er p
theorem tt_len {f : List Int → Int} (hf : ∀ P, f P ≤ 1) : ∀ L, tt f L ≤ L.length
  | [] => by simp [tt]
  | P :: L => by have := tt_len hf L; have := hf P; simp only [tt, List.length_cons]; omega
theorem tt_none {f : List Int → Int} : ∀ L, (∀ P, P ∈ L → f P = 0) → tt f L = 0
  | [], _ => rfl
  | P :: L, h => by have := tt_none L (fun Q hQ => h Q (List.mem_cons_of_mem _ hQ)); have := h P List.mem_cons_self; simp only [tt]; omega
theorem vq_opn {n : Nat} {F T Sh : Int → Int} {b : Int} : ∀ (P : List Int) (u : Int) (seen : List Int), vq n F T Sh b u seen P → ∀ k, k ∈ P → Sh k = 0 := by
  intro P
  induction P with
  | nil => intro u seen _ k hk; cases hk
  | cons j P ih =>
    intro u seen h k hk
    obtain ⟨a0, a1, a2, a3, a4, a5, a6⟩ := h
    rcases List.mem_cons.mp hk with rfl | hk
    · exact a4
    · exact ih _ _ a6 k hk
theorem da_tt' {f : List Int → List Int} : ∀ (Ps : List (List Int)), (∀ P, P ∈ Ps → (f P).Nodup) → Ps.Pairwise (fun P Q => da (f P) (f Q)) → ∀ k, tt (fun P => ((f P).count k : Nat)) Ps ≤ 1 ∧ ((∀ P, P ∈ Ps → k ∉ f P) → tt (fun P => ((f P).count k : Nat)) Ps = 0) := by
  intro Ps
  induction Ps with
  | nil => intro _ _ k; exact ⟨by simp [tt], fun _ => rfl⟩
  | cons P Ps ih =>
    intro hf h k
    obtain ⟨h1, h2⟩ := List.pairwise_cons.mp h
    obtain ⟨i1, i2⟩ := ih (fun Q hQ => hf Q (List.mem_cons_of_mem _ hQ)) h2 k
    simp only [tt]
    refine ⟨?_, fun hn => ?_⟩
    · by_cases c : k ∈ f P
      · have := i2 (fun Q hQ => h1 Q hQ k c)
        have := List.nodup_iff_count.mp (hf P List.mem_cons_self) k
        omega
      · have : (f P).count k = 0 := List.count_eq_zero.mpr c
        omega
    · have : (f P).count k = 0 := List.count_eq_zero.mpr (hn P List.mem_cons_self)
      have := i2 (fun Q hQ => hn Q (List.mem_cons_of_mem _ hQ))
      omega
theorem tt_len' {f : List Int → Int} : ∀ L, (∀ P, P ∈ L → f P ≤ 1) → tt f L ≤ L.length
  | [], _ => by simp [tt]
  | P :: L, h => by have := tt_len' L (fun Q hQ => h Q (List.mem_cons_of_mem _ hQ)); have := h P List.mem_cons_self; simp only [tt, List.length_cons]; omega
theorem apart_ok {n N : Nat} {F T W Sh : Int → Int} {a b c : Int} {et eh ec er : Int → Int} {cn : Nat} {tot by_ : Int} (hab : a ≠ b) (hW : ∀ k, 0 ≤ W k) (hT : ∀ k : Int, 0 ≤ k → k < n → 0 ≤ T k ∧ T k < N) (h : FI n N F T W Sh a b c et eh ec er cn tot) (h1 : 1 ≤ cn) (hc0 : by_ ≠ 1 → (cn : Int) ≤ c) (hc1 : by_ = 1 → c = 1)
    {L : List (List Int)} (hL : ∀ P, P ∈ L ↔ vq n F T Sh b a [] P) (hs : L.Pairwise (fun P Q => wp W P ≤ wp W Q)) {cf : List Int → List (List Int) → Bool} (hcf : ∀ P u, cf P u = false ↔ ∀ R, R ∈ u → ap T by_ R P) : se (wp W) cf L cn 0 [] (-1) = tot := by
  obtain ⟨f1, f2, f3, f4, f5, p, f6⟩ := h
  have hG := ne_gf f1 f4
  have hbx := ne_bx f2 f3
  have hby := ne_by f2 f3
  have hpo := ne_po f1 f3 f6.2.2
  rw [ne_cs f1] at f5
  have hwp : ∀ P, 0 ≤ wp W P := by
    intro P
    induction P with
    | nil => exact Int.le_refl _
    | cons k P ih => simp only [wp]; have := hW k; omega
  obtain ⟨s0, s1, s2, s3⟩ := se_spec (T := T) (by_ := by_) (w := wp W) hwp hcf L hs cn 0 [] (-1) h1 (Int.le_refl _) (Int.le_refl _)
  generalize se (wp W) cf L cn 0 [] (-1) = r at *
  -- there are such paths, and they weigh no more
  obtain ⟨Ps, p1, p2, p3, p4, p5⟩ := gf_split (Sh := Sh) (W := W) hab hW hT cn (fx Sh er) (fy n Sh a b er) hG (fun k k0 k1 => (hbx k k0 k1).1) (fun v v0 v1 => (hby v v0 v1).1) (fun k k0 k1 hk => by
    refine Classical.byContradiction (fun q => ?_)
    unfold fx at hk; rw [if_neg q] at hk; omega) (by unfold fy; rw [if_pos (Or.inl rfl)])
  have hua : ∀ k, ua Sh k ≤ 1 := fun k => by unfold ua; split <;> omega
  have d1 : Ps.Pairwise (fun P Q => da P Q) := tt_da (f := fun P => P) Ps (fun k => by
    by_cases r0 : 0 ≤ k ∧ k < n
    · have := p3 k r0.1 r0.2; have := hbx k r0.1 r0.2; have := hua k; omega
    · rw [tt_none Ps (fun P hP => by
        have : P.count k = 0 := List.count_eq_zero.mpr (fun hk => r0 (vq_arcs P a [] (p2 P hP) k hk))
        omega)]; omega)
  have d2 : by_ = 1 → Ps.Pairwise (fun P Q => da (inn T P) (inn T Q)) := fun hb1 => tt_da (f := fun P => inn T P) Ps (fun k => by
    by_cases r0 : 0 ≤ k ∧ k < N
    · have := p4 k r0.1 r0.2; have := (hby k r0.1 r0.2).2
      have : zn a b c k ≤ 1 := by unfold zn; rw [hc1 hb1]; split <;> omega
      omega
    · rw [tt_none Ps (fun P hP => by
        have : (inn T P).count k = 0 := List.count_eq_zero.mpr (fun hk => r0 (by
          obtain ⟨j, j1, j2⟩ := inn_mem P k hk
          have := vq_arcs P a [] (p2 P hP) j j1
          rw [← j2]; exact hT j this.1 this.2))
        omega)]; omega)
  have d3 : Ps.Pairwise (ap T by_) := by
    by_cases hb1 : by_ = 1
    · exact (d1.and (d2 hb1)).imp (fun h => ⟨h.1, fun _ => h.2⟩)
    · exact d1.imp (fun h => ⟨h, fun z => absurd z hb1⟩)
  have hnz : ∀ P, P ∈ Ps → P ≠ [] := fun P hP e => by
    have := p2 P hP
    rw [e] at this
    exact hab this
  have hnd : Ps.Nodup := by
    refine List.Pairwise.imp_of_mem (R := fun P Q => da P Q) (fun {P Q} hP _ hd e => ?_) d1
    subst e
    cases P with
    | nil => exact hnz _ hP rfl
    | cons k P => exact hd k List.mem_cons_self List.mem_cons_self
  obtain ⟨Q, q1, q2⟩ := sub_perm L Ps hnd (fun P hP => (hL P).mpr (p2 P hP))
  have q3 : Q.Pairwise (ap T by_) := (q2.pairwise_iff (fun {_ _} h => ap_sym h)).mpr d3
  obtain ⟨u1, u2⟩ := s3 Q q1 (by rw [q2.length_eq, p1]) ⟨(fun _ _ _ hR => by cases hR), q3⟩
  rw [tt_perm q2] at u2
  -- and none such weigh less
  rcases s2 with e | ⟨Q', z1, z2, z3, z4⟩
  · exact absurd e u1
  · have hv : ∀ P, P ∈ Q' → vq n F T Sh b a [] P := fun P hP => (hL P).mp (z1.subset hP)
    have hJ := gf_join (Sh := Sh) (F := F) hab hT Q' hv
    rw [z2] at hJ
    have e1 : Q'.Pairwise (fun P Q => da P Q) := z3.2.imp (fun h => h.1)
    have hn1 : ∀ P, P ∈ Q' → P.Nodup := fun P hP => vq_nodup P a [] (hv P hP)
    have hn2 : ∀ P, P ∈ Q' → (inn T P).Nodup := fun P hP => (vq_inn P a [] (hv P hP)).1
    have hb1 : bn n (fun k => tt (fun P => (P.count k : Nat)) Q') (ua Sh) := fun k k0 k1 => by
      refine ⟨tt_nn (fun P => by omega) Q', ?_⟩
      show tt (fun P => (P.count k : Nat)) Q' ≤ ua Sh k
      by_cases so : Sh k = 0
      · have := (da_tt' (f := fun P => P) Q' hn1 e1 k).1
        unfold ua; rw [if_pos so]; exact this
      · rw [tt_none Q' (fun P hP => by
          have : P.count k = 0 := List.count_eq_zero.mpr (fun hk => so (vq_opn P a [] (hv P hP) k hk))
          omega)]
        unfold ua; rw [if_neg so]; omega
    have hb2 : bn N (fun v => tt (fun P => ((inn T P).count v : Nat)) Q') (zn a b c) := fun v v0 v1 => by
      refine ⟨tt_nn (fun P => by omega) Q', ?_⟩
      show tt (fun P => ((inn T P).count v : Nat)) Q' ≤ zn a b c v
      by_cases so : v = a ∨ v = b
      · rw [tt_none Q' (fun P hP => by
          have : (inn T P).count v = 0 := List.count_eq_zero.mpr (fun hk => by
            obtain ⟨i1, i2, i3⟩ := vq_inn P a [] (hv P hP)
            rcases so with rfl | rfl
            · exact i3 v hk List.mem_cons_self
            · exact i2 hk)
          omega)]
        unfold zn; rw [if_pos so]; omega
      · unfold zn; rw [if_neg so]
        by_cases hby1 : by_ = 1
        · have := (da_tt' (f := fun P => inn T P) Q' hn2 (z3.2.imp (fun h => h.2 hby1)) v).1
          rw [hc1 hby1]; exact this
        · have := hc0 hby1
          have : tt (fun P => ((inn T P).count v : Nat)) Q' ≤ Q'.length := tt_len' Q' (fun P hP => by have := List.nodup_iff_count.mp (hn2 P hP) v; omega)
          omega
    have hop := gf_opt hpo hG hJ hb1 hb2
    rw [tt_wp Q' (fun P hP => vq_arcs P a [] (hv P hP))] at hop
    omega
end
section
/-! the paths from a to b in their order -/
def sp (n : Nat) (F T Sh W : Int → Int) (a b : Int) : List (List Int) := (df n F T Sh b 7 a []).mergeSort (fun P Q => decide (cd W P ≤ cd W Q))
/-- what the graph's numbers are: n arcs, N nodes -/
def gok (n N : Nat) (F T W S2 Sh : Int → Int) : Prop := n ≤ 20 ∧ N ≤ 8 ∧ (∀ k, 0 ≤ F k ∧ F k < 8 ∧ 0 ≤ T k ∧ T k < 8 ∧ 0 ≤ W k ∧ W k ≤ 1000 ∧ 0 ≤ S2 k ∧ S2 k ≤ 1000 ∧ (Sh k = 0 ∨ Sh k = 1)) ∧ ∀ k : Int, 0 ≤ k → k < n → F k < N ∧ T k < N ∧ F k ≠ T k
section SP
variable {n N : Nat} {F T W S2 Sh : Int → Int} {a b : Int}
theorem sp_perm : (sp n F T Sh W a b).Perm (df n F T Sh b 7 a []) := List.mergeSort_perm _ _
theorem sp_sorted : (sp n F T Sh W a b).Pairwise (fun P Q => cd W P ≤ cd W Q) := by
  have := List.pairwise_mergeSort (le := fun P Q => decide (cd W P ≤ cd W Q)) (fun x y z h1 h2 => by
    simp only [decide_eq_true_eq] at *; omega) (fun x y => by
    simp only [Bool.or_eq_true, decide_eq_true_eq]; omega) (df n F T Sh b 7 a [])
  exact this.imp (fun h => by simpa using h)
theorem vq_seven (h : gok n N F T W S2 Sh) (ha : 0 ≤ a ∧ a < N) {P : List Int} (hP : vq n F T Sh b a [] P) : P.length ≤ 7 := by
  have := vq_len (N := N) (fun k k0 k1 => ⟨(h.2.2.1 k).2.2.1, (h.2.2.2 k k0 k1).2.1⟩) P a [] (by simp) (fun v hv => by
    have : v = a := by simpa using hv
    subst this; exact ha) hP
  have := h.2.1
  simp only [List.length_nil] at *
  omega
theorem sp_mem (h : gok n N F T W S2 Sh) (ha : 0 ≤ a ∧ a < N) (P : List Int) : P ∈ sp n F T Sh W a b ↔ vq n F T Sh b a [] P := by
  rw [(sp_perm (n := n) (F := F) (T := T) (Sh := Sh) (W := W) (a := a) (b := b)).mem_iff, df_mem]
  exact ⟨fun q => q.1, fun q => ⟨q, vq_seven h ha q⟩⟩
theorem vq_ok5 (h : gok n N F T W S2 Sh) (ha : 0 ≤ a ∧ a < N) {P : List Int} (hP : vq n F T Sh b a [] P) : ok5 P :=
  ⟨vq_seven h ha hP, fun k hk => by have := vq_arcs P a [] hP k hk; have := h.1; omega⟩
theorem sp_ok5 (h : gok n N F T W S2 Sh) (ha : 0 ≤ a ∧ a < N) {P : List Int} (hP : P ∈ sp n F T Sh W a b) : ok5 P := vq_ok5 h ha ((sp_mem h ha P).mp hP)
theorem sp_len (h : gok n N F T W S2 Sh) (ha : 0 ≤ a ∧ a < N) (hb : 0 ≤ b ∧ b < N) : (sp n F T Sh W a b).length ≤ 1458 := by
  rw [(sp_perm (n := n) (F := F) (T := T) (Sh := Sh) (W := W) (a := a) (b := b)).length_eq]
  have h8 := h.2.1
  exact df_max (fun k => ⟨(h.2.2.1 k).2.2.1, (h.2.2.1 k).2.2.2.1⟩) h.1 hb.1 (by omega) 7 ha.1 (by omega)
theorem sp_w (h : gok n N F T W S2 Sh) (ha : 0 ≤ a ∧ a < N) : (sp n F T Sh W a b).Pairwise (fun P Q => wp W P ≤ wp W Q) := by
  refine List.Pairwise.imp_of_mem (R := fun P Q => cd W P ≤ cd W Q) (fun {P Q} hP hQ hc => ?_) sp_sorted
  have e1 := cd_w (W := W) (sp_ok5 h ha hP)
  have e2 := cd_w (W := W) (sp_ok5 h ha hQ)
  omega
theorem sp_uniq (h : gok n N F T W S2 Sh) (ha : 0 ≤ a ∧ a < N) {R : List (List Int)} (h1 : R.Perm (df n F T Sh b 7 a [])) (h2 : R.Pairwise (fun P Q => cd W P ≤ cd W Q)) : R = sp n F T Sh W a b := by
  have hp := h1.trans (sp_perm (n := n) (F := F) (T := T) (Sh := Sh) (W := W) (a := a) (b := b)).symm
  refine List.Perm.eq_of_pairwise (le := fun P Q => cd W P ≤ cd W Q) (fun P Q hP hQ l1 l2 => ?_) h2 sp_sorted hp
  exact cd_inj (W := W) (sp_ok5 h ha (hp.subset hP)) (sp_ok5 h ha hQ) (by omega)
end SP
end
section
/-! the pairs that are best -/
/-- q betters p -/
def bt2 (q p : Int × Int) : Prop := (q.1 < p.1 ∨ q.2 < p.2) ∧ q.1 ≤ p.1 ∧ q.2 ≤ p.2
def bst (X : List (Int × Int)) (p : Int × Int) : Prop := p ∈ X ∧ ∀ q, q ∈ X → ¬ bt2 q p
/-- one more is offered: the last one first -/
def of1 : List (Int × Int) → Int × Int → List (Int × Int)
  | [], p => [p]
  | q :: B, p => if q.2 ≤ p.2 then q :: B else if q.1 = p.1 then p :: B else p :: q :: B
/-- falling first numbers -/
def fal (B : List (Int × Int)) : Prop := B.Pairwise (fun p q => q.1 < p.1)
def fnt (X B : List (Int × Int)) : Prop := fal B ∧ ∀ p, p ∈ B ↔ bst X p
theorem bst_low {X : List (Int × Int)} : ∀ (k : Nat) (p : Int × Int), p ∈ X → (∀ q, q ∈ X → 0 ≤ q.1 ∧ 0 ≤ q.2) → (p.1 + p.2).toNat ≤ k → ∃ q, bst X q ∧ q.1 ≤ p.1 ∧ q.2 ≤ p.2 := by
  intro k
  induction k with
  | zero =>
    intro p hp hX hk
    refine ⟨p, ⟨hp, fun q hq hb => ?_⟩, Int.le_refl _, Int.le_refl _⟩
    have := hX p hp; have := hX q hq
    obtain ⟨h1, h2, h3⟩ := hb
    omega
  | succ k ih =>
    intro p hp hX hk
    by_cases c : ∃ q, q ∈ X ∧ bt2 q p
    · obtain ⟨q, hq, h1, h2, h3⟩ := c
      have := hX p hp; have := hX q hq
      obtain ⟨r, r1, r2, r3⟩ := ih q hq hX (by omega)
      exact ⟨r, r1, by omega, by omega⟩
    · exact ⟨p, ⟨hp, fun q hq hb => c ⟨q, hq, hb⟩⟩, Int.le_refl _, Int.le_refl _⟩
theorem fnt_nil : fnt [] [] := ⟨List.Pairwise.nil, fun p => ⟨(fun h => by cases h), fun h => h.1⟩⟩
theorem fnt_step {X B : List (Int × Int)} {p : Int × Int} (h : fnt X B) (hX : ∀ q, q ∈ X → 0 ≤ q.1 ∧ 0 ≤ q.2) (hp : 0 ≤ p.1 ∧ 0 ≤ p.2) (hw : ∀ q, q ∈ X → q.1 ≤ p.1) : fnt (X ++ [p]) (of1 B p) := by
  obtain ⟨h1, h2⟩ := h
  have hm : ∀ q, q ∈ X ++ [p] ↔ q ∈ X ∨ q = p := fun q => by simp
  cases B with
  | nil =>
    have he : X = [] := by
      cases X with
      | nil => rfl
      | cons y X =>
        obtain ⟨q, hq, -⟩ := bst_low (y.1 + y.2).toNat y List.mem_cons_self hX (Nat.le_refl _)
        exact absurd ((h2 q).mpr hq) (by simp)
    subst he
    refine ⟨by simp [of1, fal], fun q => ?_⟩
    simp only [of1, List.mem_singleton, bst, List.nil_append]
    constructor
    · rintro rfl
      refine ⟨rfl, fun r hr hb => ?_⟩
      subst hr
      obtain ⟨z, -, -⟩ := hb
      omega
    · exact fun z => z.1
  | cons y B =>
    obtain ⟨f1, f2⟩ := List.pairwise_cons.mp h1
    have hy := (h2 y).mp List.mem_cons_self
    have hyX := hX y hy.1
    have hyw := hw y hy.1
    -- y has the least second number
    have hmin : ∀ q, q ∈ X → y.2 ≤ q.2 := by
      intro q hq
      obtain ⟨r, r1, r2, r3⟩ := bst_low (q.1 + q.2).toNat q hq hX (Nat.le_refl _)
      rcases List.mem_cons.mp ((h2 r).mpr r1) with e | e
      · subst e; exact r3
      · have := f1 r e
        refine Classical.byContradiction (fun z => ?_)
        exact hy.2 r r1.1 ⟨Or.inl this, by omega, by
          refine Classical.byContradiction (fun z2 => ?_)
          exact r1.2 y hy.1 ⟨Or.inr (by omega), by omega, by omega⟩⟩
    show fnt (X ++ [p]) (if y.2 ≤ p.2 then y :: B else if y.1 = p.1 then p :: B else p :: y :: B)
    by_cases c1 : y.2 ≤ p.2
    · rw [if_pos c1]
      refine ⟨h1, fun q => ?_⟩
      rw [h2 q]
      constructor
      · rintro ⟨q1, q2⟩
        refine ⟨(hm q).mpr (Or.inl q1), fun r hr hb => ?_⟩
        rcases (hm r).mp hr with hr | rfl
        · exact q2 r hr hb
        · obtain ⟨b1, b2, b3⟩ := hb
          have := hw q q1
          exact q2 y hy.1 ⟨Or.inr (by omega), by omega, by omega⟩
      · rintro ⟨q1, q2⟩
        have q3 : ∀ r, r ∈ X → ¬ bt2 r q := fun r hr => q2 r ((hm r).mpr (Or.inl hr))
        rcases (hm q).mp q1 with q1 | rfl
        · exact ⟨q1, q3⟩
        · refine ⟨?_, q3⟩
          have : y = q := by
            have hn := q3 y hy.1
            refine Prod.ext ?_ ?_
            · refine Classical.byContradiction (fun z => hn ⟨Or.inl (by omega), hyw, c1⟩)
            · refine Classical.byContradiction (fun z => hn ⟨Or.inr (by omega), hyw, c1⟩)
          rw [← this]; exact hy.1
    · rw [if_neg c1]
      have hnew : bst (X ++ [p]) p := ⟨(hm p).mpr (Or.inr rfl), fun r hr hb => by
        obtain ⟨b1, b2, b3⟩ := hb
        rcases (hm r).mp hr with hr | rfl
        · have := hmin r hr; omega
        · omega⟩
      have hold : ∀ q, q ∈ X → q.1 < p.1 → (bst (X ++ [p]) q ↔ bst X q) := by
        intro q hq hlt
        constructor
        · rintro ⟨-, q2⟩
          exact ⟨hq, fun r hr => q2 r ((hm r).mpr (Or.inl hr))⟩
        · rintro ⟨-, q2⟩
          refine ⟨(hm q).mpr (Or.inl hq), fun r hr hb => ?_⟩
          rcases (hm r).mp hr with hr | rfl
          · exact q2 r hr hb
          · obtain ⟨b1, b2, b3⟩ := hb; omega
      have hsame : ∀ q, q ∈ X → q.1 = p.1 → ¬ bst (X ++ [p]) q := by
        intro q hq he hb
        have := hmin q hq
        exact hb.2 p ((hm p).mpr (Or.inr rfl)) ⟨Or.inr (by omega), by omega, by omega⟩
      by_cases c2 : y.1 = p.1
      · rw [if_pos c2]
        refine ⟨List.Pairwise.cons (fun q hq => by have := f1 q hq; omega) f2, fun q => ?_⟩
        constructor
        · intro hq
          rcases List.mem_cons.mp hq with rfl | hq
          · exact hnew
          · have hqX := (h2 q).mp (List.mem_cons_of_mem _ hq)
            exact (hold q hqX.1 (by have := f1 q hq; omega)).mpr hqX
        · intro hq
          rcases (hm q).mp hq.1 with hqX | rfl
          · have hle := hw q hqX
            by_cases e : q.1 = p.1
            · exact absurd hq (hsame q hqX e)
            · have := (h2 q).mpr ((hold q hqX (by omega)).mp hq)
              rcases List.mem_cons.mp this with rfl | this
              · exact absurd c2 e
              · exact List.mem_cons_of_mem _ this
          · exact List.mem_cons_self
      · rw [if_neg c2]
        refine ⟨List.Pairwise.cons (fun q hq => ?_) h1, fun q => ?_⟩
        · rcases List.mem_cons.mp hq with rfl | hq
          · omega
          · have := f1 q hq; omega
        · constructor
          · intro hq
            rcases List.mem_cons.mp hq with rfl | hq
            · exact hnew
            · have hqX := (h2 q).mp hq
              refine (hold q hqX.1 ?_).mpr hqX
              rcases List.mem_cons.mp hq with rfl | hq
              · omega
              · have := f1 q hq; omega
          · intro hq
            rcases (hm q).mp hq.1 with hqX | rfl
            · have hle := hw q hqX
              by_cases e : q.1 = p.1
              · exact absurd hq (hsame q hqX e)
              · exact List.mem_cons_of_mem _ ((h2 q).mpr ((hold q hqX (by omega)).mp hq))
            · exact List.mem_cons_self
theorem fal_nodup {B : List (Int × Int)} (h : fal B) : B.Nodup := h.imp (fun {p q} hlt e => by subst e; omega)
theorem fnt_uniq {X B B' : List (Int × Int)} (h : fnt X B) (h' : fnt X B') : B = B' := by
  refine List.Perm.eq_of_pairwise (le := fun (p q : Int × Int) => q.1 < p.1) (fun p q _ _ l1 l2 => by omega) h.1 h'.1 ?_
  exact (List.perm_ext_iff_of_nodup (fal_nodup h.1) (fal_nodup h'.1)).mpr (fun p => by rw [h.2, h'.2])
end
section
/-! bits of numbers -/
theorem bi_or (a b : Nat) : nI a ||| nI b = nI (a ||| b) := by
  apply Int32.toBitVec_inj.1
  show BitVec.ofNat 32 a ||| BitVec.ofNat 32 b = BitVec.ofNat 32 (a ||| b)
  apply BitVec.eq_of_getLsbD_eq
  intro i hi
  simp [hi]
theorem bi_and (a b : Nat) : nI a &&& nI b = nI (a &&& b) := by
  apply Int32.toBitVec_inj.1
  show BitVec.ofNat 32 a &&& BitVec.ofNat 32 b = BitVec.ofNat 32 (a &&& b)
  apply BitVec.eq_of_getLsbD_eq
  intro i hi
  simp [hi]
theorem bi_clr (a b : Nat) : nI a &&& (nI b ^^^ (-1)) = nI (a ^^^ (a &&& b)) := by
  apply Int32.toBitVec_inj.1
  show BitVec.ofNat 32 a &&& (BitVec.ofNat 32 b ^^^ BitVec.allOnes 32) = BitVec.ofNat 32 (a ^^^ (a &&& b))
  apply BitVec.eq_of_getLsbD_eq
  intro i hi
  simp only [BitVec.getLsbD_and, BitVec.getLsbD_xor, BitVec.getLsbD_allOnes, BitVec.getLsbD_ofNat, hi, decide_true, Bool.true_and, Nat.testBit_xor, Nat.testBit_and]
  cases a.testBit i <;> cases b.testBit i <;> rfl
theorem bi_shl1 : ∀ k, k < 31 → (nI 1 <<< (nI k &&& 31)) = nI (2 ^ k) := by decide +kernel
theorem bi_sm : ∀ k, k < 32 → (((nI k &&& 31).toBitVec.smod 32).toNat) = k := by decide +kernel
theorem bi_shr {a k : Nat} (ha : a < 2 ^ 31) (hk : k < 32) : nI a >>> (nI k &&& 31) = nI (a / 2 ^ k) := pk_shrN ha _ k (bi_sm k hk)
theorem bi_bit {a k : Nat} (ha : a < 2 ^ 31) (hk : k < 32) : (nI a >>> (nI k &&& 31)) &&& nI 1 = nI (if a.testBit k then 1 else 0) := by
  rw [bi_shr ha hk, bi_and, Nat.and_one_is_mod, Nat.testBit_eq_decide_div_mod_eq]
  congr 1
  have := Nat.mod_two_eq_zero_or_one (a / 2 ^ k)
  rcases this with h | h <;> simp [h]
theorem bl_c : ∀ k, k < 64 → ((nI k).toInt64 &&& 63) = lN k := by decide +kernel
theorem bl_sm : ∀ k, k < 64 → (BitVec.ofNat 64 k).smod 64 = BitVec.ofNat 64 k := by decide +kernel
theorem bl_shl (n : Nat) {k : Nat} (hk : k < 64) : lN n <<< ((nI k).toInt64 &&& 63) = lN (n * 2 ^ k) := by
  rw [bl_c k hk]
  apply Int64.toBitVec_inj.mp
  rw [Int64.toBitVec_shiftLeft]
  show BitVec.ofNat 64 n <<< ((BitVec.ofNat 64 k).smod 64) = BitVec.ofNat 64 (n * 2 ^ k)
  rw [bl_sm k hk]
  apply BitVec.eq_of_toNat_eq
  rw [BitVec.shiftLeft_eq', BitVec.toNat_shiftLeft, BitVec.toNat_ofNat, BitVec.toNat_ofNat, BitVec.toNat_ofNat, Nat.mod_eq_of_lt (show k < 2 ^ 64 by omega), Nat.shiftLeft_eq, Nat.mul_mod, Nat.mod_mod, ← Nat.mul_mod]
theorem bl_u {n : Nat} (h : n < 2 ^ 64) : (UInt64.ofNat n).toNat = n := Nat.mod_eq_of_lt h
theorem bl_or {k a b : Nat} (ha : a < 2 ^ k) (h : b * 2 ^ k + a < 2 ^ 64) : lN (b * 2 ^ k) ||| lN a = lN (b * 2 ^ k + a) := by
  have h1 : b * 2 ^ k ||| a = b * 2 ^ k + a := by rw [← Nat.shiftLeft_eq, Nat.shiftLeft_add_eq_or_of_lt ha]
  have h3 : UInt64.ofNat (b * 2 ^ k) ||| UInt64.ofNat a = UInt64.ofNat (b * 2 ^ k + a) := UInt64.toNat_inj.mp (by rw [UInt64.toNat_or, bl_u (by omega), bl_u (by omega), bl_u h, h1])
  exact congrArg UInt64.toInt64 h3
theorem bl_shr {a k : Nat} (ha : a < 2 ^ 62) (hk : k < 64) : lN a >>> ((nI k).toInt64 &&& 63) = lN (a / 2 ^ k) := by
  rw [bl_c k hk]
  apply Int64.toInt_inj.mp
  rw [pk_lT (by have := Nat.div_le_self a (2 ^ k); omega)]
  have e : (lN a >>> lN k).toInt = (lN a).toInt >>> k := by
    rw [← Int64.toInt_toBitVec, Int64.toBitVec_shiftRight]
    show (BitVec.sshiftRight' (lN a).toBitVec ((BitVec.ofNat 64 k).smod 64)).toInt = _
    rw [bl_sm k hk]
    simp [BitVec.sshiftRight', BitVec.toInt_sshiftRight, Nat.mod_eq_of_lt (show k < 18446744073709551616 by omega)]
  rw [e, pk_lT (by omega), Int.shiftRight_eq_div_pow]
  simp
theorem bl_and {a b : Nat} (ha : a < 2 ^ 64) (hb : b < 2 ^ 64) : lN a &&& lN b = lN (a &&& b) := by
  have h : UInt64.ofNat a &&& UInt64.ofNat b = UInt64.ofNat (a &&& b) := UInt64.toNat_inj.mp (by rw [UInt64.toNat_and, bl_u ha, bl_u hb, bl_u (Nat.and_lt_two_pow a hb)])
  exact congrArg UInt64.toInt64 h
end
section
/-! one goal a point: the machine at pc with the locals lv and the stack st, over every heap that holds the cells w x -/
def iI (z : Int) : Int32 := Int32.ofInt z
def lI (z : Int) : Int64 := Int64.ofInt z
abbrev r32 (z : Int) : Prop := -2147483648 ≤ z ∧ z < 2147483648
abbrev r64 (z : Int) : Prop := -9223372036854775808 ≤ z ∧ z < 9223372036854775808
theorem iI_t {z : Int} (h : r32 z) : (iI z).toInt = z := Int32.toInt_ofInt_of_le (by omega) (by omega)
theorem lI_t {z : Int} (h : r64 z) : (lI z).toInt = z := Int64.toInt_ofInt_of_le (by omega) (by omega)
theorem iI_of (x : Int32) : ∃ z, r32 z ∧ x = iI z := ⟨x.toInt, ⟨x.le_toInt, by have := x.toInt_lt; omega⟩, (Int32.ofInt_toInt x).symm⟩
theorem iI_lt {a b : Int} (ha : r32 a) (hb : r32 b) : iI a < iI b ↔ a < b := by rw [Int32.lt_iff_toInt_lt, iI_t ha, iI_t hb]
theorem iI_le {a b : Int} (ha : r32 a) (hb : r32 b) : iI a ≤ iI b ↔ a ≤ b := by rw [Int32.le_iff_toInt_le, iI_t ha, iI_t hb]
theorem iI_eq {a b : Int} (ha : r32 a) (hb : r32 b) : iI a = iI b ↔ a = b := by rw [← Int32.toInt_inj, iI_t ha, iI_t hb]
theorem lI_lt {a b : Int} (ha : r64 a) (hb : r64 b) : lI a < lI b ↔ a < b := by rw [Int64.lt_iff_toInt_lt, lI_t ha, lI_t hb]
theorem iI_nI (n : Nat) : iI (n : Int) = nI n := Int32.ofInt_eq_ofNat
theorem iI_in {z : Int} {n : Nat} (h0 : 0 ≤ z) (h1 : z < n) (hn : n < 2147483648) : vp_in (iI z) n := by
  rw [vp_in_iff, iI_t ⟨by omega, by omega⟩]
  omega
theorem iI_cl {z : Int} (h0 : 0 ≤ z) (h1 : z < 2147483648) : (iI z).toNatClampNeg = z.toNat := Int32.toNatClampNeg_ofInt_of_le (by omega) (by omega)
def lk : List (Nat × Value) → Nat → Option Value
  | [], _ => none
  | q :: l, i => if q.1 = i then some q.2 else lk l i
theorem lk_at {ls : Array Slot} {nL i : Nat} {v : Value} : ∀ {lv : List (Nat × Value)}, (∀ q ∈ lv, ls[q.1]? = some (.val q.2)) → lk lv i = some v → ls[i]? = some (.val v)
  | [], _, h => by cases h
  | q :: l, hl, h => by
    unfold lk at h
    split at h
    · next e =>
      cases h
      rw [← e]
      exact hl q List.mem_cons_self
    · exact lk_at (nL := nL) (fun r hr => hl r (List.mem_cons_of_mem _ hr)) h
def CX (p : Program) (s : State) (m : MethodId) (args : Array Value) (c : Code) (cc : ByteArray) (nL : Nat) (own : String) (Ts : List Cond) (D : va_G) (cl : List vw_C) (tys : List (ClassId × FieldType)) : Prop :=
  p.tables.exec = Jvm.exec ∧ c.code = cc ∧ c.maxLocals = nL ∧ s.vm.findClass own = some m.cls ∧ (∀ w ∈ Ts, w.before args s = true) ∧ va_K D cl tys s
def GG {τ : Type} (p : Program) (l : Launch) (e : Env) (R : Room) (s : State) (m : MethodId) (args : Array Value) (below : List Frame) (meth : Method) (c : Code) (D : va_G) (cl : List vw_C) (A : Nat → Prop) (nL nc ns : Nat) (Q : State → Prop) (w : τ → va_W) (x : τ) (lv : List (Nat × Value)) (pc : Nat) (st : List Value) : Prop :=
  ∀ (H : Heap) (locs : List Loc) (ls : Array Slot), va_P D cl (w x) H → va_D A (w x) → va_S A s.heap H locs → lv_has ls nL lv → W p l e R s m args below meth c H locs nc ns Q (F0 m pc ls st)
section GR
variable {τ : Type} {p : Program} {l : Launch} {e : Env} {R : Room} {s : State} {m : MethodId} {args : Array Value} {below : List Frame} {meth : Method} {c : Code} {D : va_G} {cl : List vw_C} {tys : List (ClassId × FieldType)} {A : Nat → Prop} {nL nc ns : Nat} {Q : State → Prop} {w : τ → va_W} {x : τ} {cc : ByteArray} {own : String} {Ts : List Cond} {lv lv' : List (Nat × Value)} {pc n : Nat} {st : List Value}
theorem g_iconst (C : CX p s m args c cc nL own Ts D cl tys) {j z : Int} (hd : decode cc pc = .ok (.iconst j, 1)) (hn : pc + 1 = n) (hz : iI j = iI z) (k : GG p l e R s m args below meth c D cl A nL nc ns Q w x lv n (.int (iI z) :: st)) : GG p l e R s m args below meth c D cl A nL nc ns Q w x lv pc st :=
  fun H locs ls hP hD hS hl => by subst hn; exact lv_iconst C.1 C.2.1 hd hz (k H locs ls hP hD hS hl)
theorem g_bipush (C : CX p s m args c cc nL own Ts D cl tys) {j z : Int} (hd : decode cc pc = .ok (.bipush j, 2)) (hn : pc + 2 = n) (hz : (Int8.ofInt j).toInt32 = iI z) (k : GG p l e R s m args below meth c D cl A nL nc ns Q w x lv n (.int (iI z) :: st)) : GG p l e R s m args below meth c D cl A nL nc ns Q w x lv pc st :=
  fun H locs ls hP hD hS hl => by subst hn; exact lv_bipush C.1 C.2.1 hd hz (k H locs ls hP hD hS hl)
theorem g_sipush (C : CX p s m args c cc nL own Ts D cl tys) {j z : Int} (hd : decode cc pc = .ok (.sipush j, 3)) (hn : pc + 3 = n) (hz : (Int16.ofInt j).toInt32 = iI z) (k : GG p l e R s m args below meth c D cl A nL nc ns Q w x lv n (.int (iI z) :: st)) : GG p l e R s m args below meth c D cl A nL nc ns Q w x lv pc st :=
  fun H locs ls hP hD hS hl => by subst hn; exact lv_sipush C.1 C.2.1 hd hz (k H locs ls hP hD hS hl)
theorem g_ldc (C : CX p s m args c cc nL own Ts D cl tys) {index : Nat} {z : Int} (hc : Jvm.Cond.constant own index (iI z) ∈ Ts) (hd : decode cc pc = .ok (.ldc index, 2)) (hn : pc + 2 = n) (k : GG p l e R s m args below meth c D cl A nL nc ns Q w x lv n (.int (iI z) :: st)) : GG p l e R s m args below meth c D cl A nL nc ns Q w x lv pc st :=
  fun H locs ls hP hD hS hl => by subst hn; exact lv_ldc C.1 C.2.1 C.2.2.2.1 (C.2.2.2.2.1 _ hc) hd (k H locs ls hP hD hS hl)
theorem g_lconst (C : CX p s m args c cc nL own Ts D cl tys) {j : Fin 2} {z : Int} (hd : decode cc pc = .ok (.lconst j, 1)) (hn : pc + 1 = n) (hz : Int64.ofNat (j : Nat) = lI z) (k : GG p l e R s m args below meth c D cl A nL nc ns Q w x lv n (.long (lI z) :: st)) : GG p l e R s m args below meth c D cl A nL nc ns Q w x lv pc st :=
  fun H locs ls hP hD hS hl => by subst hn; exact lv_lconst C.1 C.2.1 hd hz (k H locs ls hP hD hS hl)
theorem g_ldc2 (C : CX p s m args c cc nL own Ts D cl tys) {index : Nat} {z : Int} (hc : Jvm.Cond.constantLong own index (lI z) ∈ Ts) (hd : decode cc pc = .ok (.ldc2_w index, 3)) (hn : pc + 3 = n) (k : GG p l e R s m args below meth c D cl A nL nc ns Q w x lv n (.long (lI z) :: st)) : GG p l e R s m args below meth c D cl A nL nc ns Q w x lv pc st :=
  fun H locs ls hP hD hS hl => by subst hn; exact lv_ldc2 C.1 C.2.1 C.2.2.2.1 (C.2.2.2.2.1 _ hc) hd (k H locs ls hP hD hS hl)
theorem g_iload_n (C : CX p s m args c cc nL own Ts D cl tys) {j : Fin 4} {y : Int32} (hd : decode cc pc = .ok (.iload_n j, 1)) (hk : lk lv (j : Nat) = some (.int y)) (hn : pc + 1 = n) (k : GG p l e R s m args below meth c D cl A nL nc ns Q w x lv n (.int y :: st)) : GG p l e R s m args below meth c D cl A nL nc ns Q w x lv pc st :=
  fun H locs ls hP hD hS hl => by subst hn; exact lv_iload_n C.1 C.2.1 hd rfl (lk_at (nL := nL) hl.2.2 hk) (k H locs ls hP hD hS hl)
theorem g_iload (C : CX p s m args c cc nL own Ts D cl tys) {j : Nat} {y : Int32} (hd : decode cc pc = .ok (.iload j, 2)) (hk : lk lv j = some (.int y)) (hn : pc + 2 = n) (k : GG p l e R s m args below meth c D cl A nL nc ns Q w x lv n (.int y :: st)) : GG p l e R s m args below meth c D cl A nL nc ns Q w x lv pc st :=
  fun H locs ls hP hD hS hl => by subst hn; exact lv_iload C.1 C.2.1 hd (lk_at (nL := nL) hl.2.2 hk) (k H locs ls hP hD hS hl)
theorem g_lload_n (C : CX p s m args c cc nL own Ts D cl tys) {j : Fin 4} {y : Int64} (hd : decode cc pc = .ok (.lload_n j, 1)) (hk : lk lv (j : Nat) = some (.long y)) (hn : pc + 1 = n) (k : GG p l e R s m args below meth c D cl A nL nc ns Q w x lv n (.long y :: st)) : GG p l e R s m args below meth c D cl A nL nc ns Q w x lv pc st :=
  fun H locs ls hP hD hS hl => by subst hn; exact lv_lload_n C.1 C.2.1 hd rfl (lk_at (nL := nL) hl.2.2 hk) (k H locs ls hP hD hS hl)
theorem g_lload (C : CX p s m args c cc nL own Ts D cl tys) {j : Nat} {y : Int64} (hd : decode cc pc = .ok (.lload j, 2)) (hk : lk lv j = some (.long y)) (hn : pc + 2 = n) (k : GG p l e R s m args below meth c D cl A nL nc ns Q w x lv n (.long y :: st)) : GG p l e R s m args below meth c D cl A nL nc ns Q w x lv pc st :=
  fun H locs ls hP hD hS hl => by subst hn; exact lv_lload C.1 C.2.1 hd (lk_at (nL := nL) hl.2.2 hk) (k H locs ls hP hD hS hl)
theorem g_aload_n (C : CX p s m args c cc nL own Ts D cl tys) {j : Fin 4} {y : Nat} (hd : decode cc pc = .ok (.aload_n j, 1)) (hk : lk lv (j : Nat) = some (.ref y)) (hn : pc + 1 = n) (k : GG p l e R s m args below meth c D cl A nL nc ns Q w x lv n (.ref y :: st)) : GG p l e R s m args below meth c D cl A nL nc ns Q w x lv pc st :=
  fun H locs ls hP hD hS hl => by subst hn; exact lv_aload_n C.1 C.2.1 hd rfl (lk_at (nL := nL) hl.2.2 hk) (k H locs ls hP hD hS hl)
theorem g_aload (C : CX p s m args c cc nL own Ts D cl tys) {j : Nat} {y : Nat} (hd : decode cc pc = .ok (.aload j, 2)) (hk : lk lv j = some (.ref y)) (hn : pc + 2 = n) (k : GG p l e R s m args below meth c D cl A nL nc ns Q w x lv n (.ref y :: st)) : GG p l e R s m args below meth c D cl A nL nc ns Q w x lv pc st :=
  fun H locs ls hP hD hS hl => by subst hn; exact lv_aload C.1 C.2.1 hd (lk_at (nL := nL) hl.2.2 hk) (k H locs ls hP hD hS hl)
theorem g_istore_n (C : CX p s m args c cc nL own Ts D cl tys) {j : Fin 4} {y : Int32} (hd : decode cc pc = .ok (.istore_n j, 1)) (hj : (j : Nat) < nL) (hs : ((j : Nat), Value.int y) :: lv.filter (fun q => !(q.1 == (j : Nat)) && !(q.1 + 1 == (j : Nat) && q.2.category == 2)) = lv') (hn : pc + 1 = n) (k : GG p l e R s m args below meth c D cl A nL nc ns Q w x lv' n st) : GG p l e R s m args below meth c D cl A nL nc ns Q w x lv pc (.int y :: st) :=
  fun H locs ls hP hD hS hl => by subst hn; exact lv_istore_n C.1 C.2.1 hd rfl hl hj hs (fun ls' hl' => k H locs ls' hP hD hS hl')
theorem g_istore (C : CX p s m args c cc nL own Ts D cl tys) {j : Nat} {y : Int32} (hd : decode cc pc = .ok (.istore j, 2)) (hj : j < nL) (hs : (j, Value.int y) :: lv.filter (fun q => !(q.1 == j) && !(q.1 + 1 == j && q.2.category == 2)) = lv') (hn : pc + 2 = n) (k : GG p l e R s m args below meth c D cl A nL nc ns Q w x lv' n st) : GG p l e R s m args below meth c D cl A nL nc ns Q w x lv pc (.int y :: st) :=
  fun H locs ls hP hD hS hl => by subst hn; exact lv_istore C.1 C.2.1 hd hl hj hs (fun ls' hl' => k H locs ls' hP hD hS hl')
theorem g_lstore_n (C : CX p s m args c cc nL own Ts D cl tys) {j : Fin 4} {y : Int64} (hd : decode cc pc = .ok (.lstore_n j, 1)) (hj : (j : Nat) + 1 < nL) (hs : ((j : Nat), Value.long y) :: lv.filter (fun q => !(q.1 == (j : Nat)) && (!(q.1 == (j : Nat) + 1) && !(q.1 + 1 == (j : Nat) && q.2.category == 2))) = lv') (hn : pc + 1 = n) (k : GG p l e R s m args below meth c D cl A nL nc ns Q w x lv' n st) : GG p l e R s m args below meth c D cl A nL nc ns Q w x lv pc (.long y :: st) :=
  fun H locs ls hP hD hS hl => by subst hn; exact lv_lstore_n C.1 C.2.1 hd rfl hl hj hs (fun ls' hl' => k H locs ls' hP hD hS hl')
theorem g_lstore (C : CX p s m args c cc nL own Ts D cl tys) {j : Nat} {y : Int64} (hd : decode cc pc = .ok (.lstore j, 2)) (hj : j + 1 < nL) (hs : (j, Value.long y) :: lv.filter (fun q => !(q.1 == j) && (!(q.1 == j + 1) && !(q.1 + 1 == j && q.2.category == 2))) = lv') (hn : pc + 2 = n) (k : GG p l e R s m args below meth c D cl A nL nc ns Q w x lv' n st) : GG p l e R s m args below meth c D cl A nL nc ns Q w x lv pc (.long y :: st) :=
  fun H locs ls hP hD hS hl => by subst hn; exact lv_lstore C.1 C.2.1 hd hl hj hs (fun ls' hl' => k H locs ls' hP hD hS hl')
theorem g_astore_n (C : CX p s m args c cc nL own Ts D cl tys) {j : Fin 4} {y : Nat} (hd : decode cc pc = .ok (.astore_n j, 1)) (hj : (j : Nat) < nL) (hs : ((j : Nat), Value.ref y) :: lv.filter (fun q => !(q.1 == (j : Nat)) && !(q.1 + 1 == (j : Nat) && q.2.category == 2)) = lv') (hn : pc + 1 = n) (k : GG p l e R s m args below meth c D cl A nL nc ns Q w x lv' n st) : GG p l e R s m args below meth c D cl A nL nc ns Q w x lv pc (.ref y :: st) :=
  fun H locs ls hP hD hS hl => by subst hn; exact lv_astore_n C.1 C.2.1 hd rfl hl hj hs (fun ls' hl' => k H locs ls' hP hD hS hl')
theorem g_astore (C : CX p s m args c cc nL own Ts D cl tys) {j : Nat} {y : Nat} (hd : decode cc pc = .ok (.astore j, 2)) (hj : j < nL) (hs : (j, Value.ref y) :: lv.filter (fun q => !(q.1 == j) && !(q.1 + 1 == j && q.2.category == 2)) = lv') (hn : pc + 2 = n) (k : GG p l e R s m args below meth c D cl A nL nc ns Q w x lv' n st) : GG p l e R s m args below meth c D cl A nL nc ns Q w x lv pc (.ref y :: st) :=
  fun H locs ls hP hD hS hl => by subst hn; exact lv_astore C.1 C.2.1 hd hl hj hs (fun ls' hl' => k H locs ls' hP hD hS hl')
theorem g_iinc (C : CX p s m args c cc nL own Ts D cl tys) {j q : Nat} {a z : Int} {y : Int} (hd : decode cc pc = .ok (.iinc j a, 3)) (hk : lv[q]? = some (j, .int (iI y))) (hz : y + a = z) (hj : j < nL) (hs : (j, Value.int (iI z)) :: lv.filter (fun q => !(q.1 == j) && !(q.1 + 1 == j && q.2.category == 2)) = lv') (hn : pc + 3 = n) (k : GG p l e R s m args below meth c D cl A nL nc ns Q w x lv' n st) : GG p l e R s m args below meth c D cl A nL nc ns Q w x lv pc st :=
  fun H locs ls hP hD hS hl => by subst hn; subst hz; exact lv_iinc C.1 C.2.1 hd hl hk (Int32.ofInt_add _ _).symm hj hs (fun ls' hl' => k H locs ls' hP hD hS hl')
theorem g_iadd (C : CX p s m args c cc nL own Ts D cl tys) {a b z : Int} (hd : decode cc pc = .ok (.iadd, 1)) (hz : a + b = z) (hn : pc + 1 = n) (k : GG p l e R s m args below meth c D cl A nL nc ns Q w x lv n (.int (iI z) :: st)) : GG p l e R s m args below meth c D cl A nL nc ns Q w x lv pc (.int (iI b) :: .int (iI a) :: st) :=
  fun H locs ls hP hD hS hl => by
    subst hn; subst hz
    refine lv_iadd C.1 C.2.1 hd ?_
    have h := k H locs ls hP hD hS hl
    unfold iI at h ⊢
    rw [Int32.ofInt_add] at h
    exact h
theorem g_isub (C : CX p s m args c cc nL own Ts D cl tys) {a b z : Int} (hd : decode cc pc = .ok (.isub, 1)) (hz : a - b = z) (hn : pc + 1 = n) (k : GG p l e R s m args below meth c D cl A nL nc ns Q w x lv n (.int (iI z) :: st)) : GG p l e R s m args below meth c D cl A nL nc ns Q w x lv pc (.int (iI b) :: .int (iI a) :: st) :=
  fun H locs ls hP hD hS hl => by
    subst hn; subst hz
    refine lv_isub C.1 C.2.1 hd ?_
    have h := k H locs ls hP hD hS hl
    unfold iI at h ⊢
    rw [Int32.ofInt_sub] at h
    exact h
theorem g_imul (C : CX p s m args c cc nL own Ts D cl tys) {a b z : Int} (hd : decode cc pc = .ok (.imul, 1)) (hz : a * b = z) (hn : pc + 1 = n) (k : GG p l e R s m args below meth c D cl A nL nc ns Q w x lv n (.int (iI z) :: st)) : GG p l e R s m args below meth c D cl A nL nc ns Q w x lv pc (.int (iI b) :: .int (iI a) :: st) :=
  fun H locs ls hP hD hS hl => by
    subst hn; subst hz
    refine lv_imul C.1 C.2.1 hd ?_
    have h := k H locs ls hP hD hS hl
    unfold iI at h ⊢
    rw [Int32.ofInt_mul] at h
    exact h
theorem g_ineg (C : CX p s m args c cc nL own Ts D cl tys) {a z : Int} (hd : decode cc pc = .ok (.ineg, 1)) (hz : -a = z) (hn : pc + 1 = n) (k : GG p l e R s m args below meth c D cl A nL nc ns Q w x lv n (.int (iI z) :: st)) : GG p l e R s m args below meth c D cl A nL nc ns Q w x lv pc (.int (iI a) :: st) :=
  fun H locs ls hP hD hS hl => by
    subst hn; subst hz
    refine lv_ineg C.1 C.2.1 hd ?_
    have h := k H locs ls hP hD hS hl
    unfold iI at h ⊢
    rw [Int32.ofInt_neg] at h
    exact h
theorem g_iand (C : CX p s m args c cc nL own Ts D cl tys) {a b : Int32} {z : Int} (hd : decode cc pc = .ok (.iand, 1)) (hz : a &&& b = iI z) (hn : pc + 1 = n) (k : GG p l e R s m args below meth c D cl A nL nc ns Q w x lv n (.int (iI z) :: st)) : GG p l e R s m args below meth c D cl A nL nc ns Q w x lv pc (.int b :: .int a :: st) :=
  fun H locs ls hP hD hS hl => by subst hn; exact lv_iand C.1 C.2.1 hd (hz ▸ k H locs ls hP hD hS hl)
theorem g_ior (C : CX p s m args c cc nL own Ts D cl tys) {a b : Int32} {z : Int} (hd : decode cc pc = .ok (.ior, 1)) (hz : a ||| b = iI z) (hn : pc + 1 = n) (k : GG p l e R s m args below meth c D cl A nL nc ns Q w x lv n (.int (iI z) :: st)) : GG p l e R s m args below meth c D cl A nL nc ns Q w x lv pc (.int b :: .int a :: st) :=
  fun H locs ls hP hD hS hl => by subst hn; exact lv_ior C.1 C.2.1 hd (hz ▸ k H locs ls hP hD hS hl)
theorem g_ixor (C : CX p s m args c cc nL own Ts D cl tys) {a b : Int32} {z : Int} (hd : decode cc pc = .ok (.ixor, 1)) (hz : a ^^^ b = iI z) (hn : pc + 1 = n) (k : GG p l e R s m args below meth c D cl A nL nc ns Q w x lv n (.int (iI z) :: st)) : GG p l e R s m args below meth c D cl A nL nc ns Q w x lv pc (.int b :: .int a :: st) :=
  fun H locs ls hP hD hS hl => by subst hn; exact lv_ixor C.1 C.2.1 hd (hz ▸ k H locs ls hP hD hS hl)
theorem g_ishl (C : CX p s m args c cc nL own Ts D cl tys) {a b : Int32} {z : Int} (hd : decode cc pc = .ok (.ishl, 1)) (hz : a <<< (b &&& 31) = iI z) (hn : pc + 1 = n) (k : GG p l e R s m args below meth c D cl A nL nc ns Q w x lv n (.int (iI z) :: st)) : GG p l e R s m args below meth c D cl A nL nc ns Q w x lv pc (.int b :: .int a :: st) :=
  fun H locs ls hP hD hS hl => by subst hn; exact lv_ishl C.1 C.2.1 hd (hz ▸ k H locs ls hP hD hS hl)
theorem g_ishr (C : CX p s m args c cc nL own Ts D cl tys) {a b : Int32} {z : Int} (hd : decode cc pc = .ok (.ishr, 1)) (hz : a >>> (b &&& 31) = iI z) (hn : pc + 1 = n) (k : GG p l e R s m args below meth c D cl A nL nc ns Q w x lv n (.int (iI z) :: st)) : GG p l e R s m args below meth c D cl A nL nc ns Q w x lv pc (.int b :: .int a :: st) :=
  fun H locs ls hP hD hS hl => by subst hn; exact lv_ishr C.1 C.2.1 hd (hz ▸ k H locs ls hP hD hS hl)
theorem g_idiv (C : CX p s m args c cc nL own Ts D cl tys) {a b : Int32} {z : Int} (hd : decode cc pc = .ok (.idiv, 1)) (hb : ¬ b = 0) (hz : a / b = iI z) (hn : pc + 1 = n) (k : GG p l e R s m args below meth c D cl A nL nc ns Q w x lv n (.int (iI z) :: st)) : GG p l e R s m args below meth c D cl A nL nc ns Q w x lv pc (.int b :: .int a :: st) :=
  fun H locs ls hP hD hS hl => by subst hn; exact lv_idiv C.1 C.2.1 hd hb (hz ▸ k H locs ls hP hD hS hl)
theorem g_lor (C : CX p s m args c cc nL own Ts D cl tys) {a b : Int64} {z : Int} (hd : decode cc pc = .ok (.lor, 1)) (hz : a ||| b = lI z) (hn : pc + 1 = n) (k : GG p l e R s m args below meth c D cl A nL nc ns Q w x lv n (.long (lI z) :: st)) : GG p l e R s m args below meth c D cl A nL nc ns Q w x lv pc (.long b :: .long a :: st) :=
  fun H locs ls hP hD hS hl => by subst hn; exact lv_lor C.1 C.2.1 hd (hz ▸ k H locs ls hP hD hS hl)
theorem g_land (C : CX p s m args c cc nL own Ts D cl tys) {a b : Int64} {z : Int} (hd : decode cc pc = .ok (.land, 1)) (hz : a &&& b = lI z) (hn : pc + 1 = n) (k : GG p l e R s m args below meth c D cl A nL nc ns Q w x lv n (.long (lI z) :: st)) : GG p l e R s m args below meth c D cl A nL nc ns Q w x lv pc (.long b :: .long a :: st) :=
  fun H locs ls hP hD hS hl => by subst hn; exact lv_land C.1 C.2.1 hd (hz ▸ k H locs ls hP hD hS hl)
theorem g_lshl (C : CX p s m args c cc nL own Ts D cl tys) {a : Int64} {b : Int32} {z : Int} (hd : decode cc pc = .ok (.lshl, 1)) (hz : a <<< (b.toInt64 &&& 63) = lI z) (hn : pc + 1 = n) (k : GG p l e R s m args below meth c D cl A nL nc ns Q w x lv n (.long (lI z) :: st)) : GG p l e R s m args below meth c D cl A nL nc ns Q w x lv pc (.int b :: .long a :: st) :=
  fun H locs ls hP hD hS hl => by subst hn; exact lv_lshl C.1 C.2.1 hd hz (k H locs ls hP hD hS hl)
theorem g_lshr (C : CX p s m args c cc nL own Ts D cl tys) {a : Int64} {b : Int32} {z : Int} (hd : decode cc pc = .ok (.lshr, 1)) (hz : a >>> (b.toInt64 &&& 63) = lI z) (hn : pc + 1 = n) (k : GG p l e R s m args below meth c D cl A nL nc ns Q w x lv n (.long (lI z) :: st)) : GG p l e R s m args below meth c D cl A nL nc ns Q w x lv pc (.int b :: .long a :: st) :=
  fun H locs ls hP hD hS hl => by subst hn; exact lv_lshr C.1 C.2.1 hd hz (k H locs ls hP hD hS hl)
theorem g_i2l (C : CX p s m args c cc nL own Ts D cl tys) {a : Int32} {z : Int} (hd : decode cc pc = .ok (.i2l, 1)) (hz : a.toInt64 = lI z) (hn : pc + 1 = n) (k : GG p l e R s m args below meth c D cl A nL nc ns Q w x lv n (.long (lI z) :: st)) : GG p l e R s m args below meth c D cl A nL nc ns Q w x lv pc (.int a :: st) :=
  fun H locs ls hP hD hS hl => by subst hn; exact lv_i2l C.1 C.2.1 hd hz (k H locs ls hP hD hS hl)
theorem g_l2i (C : CX p s m args c cc nL own Ts D cl tys) {a : Int} (hd : decode cc pc = .ok (.l2i, 1)) (hn : pc + 1 = n) (k : GG p l e R s m args below meth c D cl A nL nc ns Q w x lv n (.int (iI a) :: st)) : GG p l e R s m args below meth c D cl A nL nc ns Q w x lv pc (.long (lI a) :: st) :=
  fun H locs ls hP hD hS hl => by subst hn; exact lv_l2i C.1 C.2.1 hd Int64.toInt32_ofInt (k H locs ls hP hD hS hl)
theorem g_dup (C : CX p s m args c cc nL own Ts D cl tys) {va : Value} (hd : decode cc pc = .ok (.dup, 1)) (hva : va.category = 1) (hn : pc + 1 = n) (k : GG p l e R s m args below meth c D cl A nL nc ns Q w x lv n (va :: va :: st)) : GG p l e R s m args below meth c D cl A nL nc ns Q w x lv pc (va :: st) :=
  fun H locs ls hP hD hS hl => by subst hn; exact lv_dup C.1 C.2.1 hd hva (k H locs ls hP hD hS hl)
theorem g_pop (C : CX p s m args c cc nL own Ts D cl tys) {va : Value} (hd : decode cc pc = .ok (.pop, 1)) (hva : va.category = 1) (hn : pc + 1 = n) (k : GG p l e R s m args below meth c D cl A nL nc ns Q w x lv n (st)) : GG p l e R s m args below meth c D cl A nL nc ns Q w x lv pc (va :: st) :=
  fun H locs ls hP hD hS hl => by subst hn; exact lv_pop C.1 C.2.1 hd hva (k H locs ls hP hD hS hl)
theorem g_dup_x1 (C : CX p s m args c cc nL own Ts D cl tys) {va vb : Value} (hd : decode cc pc = .ok (.dup_x1, 1)) (hva : va.category = 1) (hvb : vb.category = 1) (hn : pc + 1 = n) (k : GG p l e R s m args below meth c D cl A nL nc ns Q w x lv n (va :: vb :: va :: st)) : GG p l e R s m args below meth c D cl A nL nc ns Q w x lv pc (va :: vb :: st) :=
  fun H locs ls hP hD hS hl => by subst hn; exact lv_dup_x1 C.1 C.2.1 hd hva hvb (k H locs ls hP hD hS hl)
theorem g_dup_x2 (C : CX p s m args c cc nL own Ts D cl tys) {va vb vd : Value} (hd : decode cc pc = .ok (.dup_x2, 1)) (hva : va.category = 1) (hvb : vb.category = 1) (hvd : vd.category = 1) (hn : pc + 1 = n) (k : GG p l e R s m args below meth c D cl A nL nc ns Q w x lv n (va :: vb :: vd :: va :: st)) : GG p l e R s m args below meth c D cl A nL nc ns Q w x lv pc (va :: vb :: vd :: st) :=
  fun H locs ls hP hD hS hl => by subst hn; exact lv_dup_x2 C.1 C.2.1 hd hva hvb hvd (k H locs ls hP hD hS hl)
theorem g_dup2 (C : CX p s m args c cc nL own Ts D cl tys) {va vb : Value} (hd : decode cc pc = .ok (.dup2, 1)) (hva : va.category = 1) (hvb : vb.category = 1) (hn : pc + 1 = n) (k : GG p l e R s m args below meth c D cl A nL nc ns Q w x lv n (va :: vb :: va :: vb :: st)) : GG p l e R s m args below meth c D cl A nL nc ns Q w x lv pc (va :: vb :: st) :=
  fun H locs ls hP hD hS hl => by subst hn; exact lv_dup2_11 C.1 C.2.1 hd hva hvb (k H locs ls hP hD hS hl)
theorem r32_0 : r32 0 := by decide
theorem g_icmp_eq (C : CX p s m args c cc nL own Ts D cl tys) {a b : Int} {off : Int} {tgt : Nat} (hd : decode cc pc = .ok (.if_icmp .eq off, 3)) (ht : (pc : Int) + off = (tgt : Int)) (hn : pc + 3 = n) (ha : r32 a) (hb : r32 b) (kt : a = b → GG p l e R s m args below meth c D cl A nL nc ns Q w x lv tgt st) (kf : a ≠ b → GG p l e R s m args below meth c D cl A nL nc ns Q w x lv n st) : GG p l e R s m args below meth c D cl A nL nc ns Q w x lv pc (.int (iI b) :: .int (iI a) :: st) :=
  fun H locs ls hP hD hS hl => by
    subst hn
    exact lv_icmp_eq C.1 C.2.1 hd ht (fun h => kt ((iI_eq ha hb).mp h) H locs ls hP hD hS hl) (fun h => kf (fun q => h ((iI_eq ha hb).mpr q)) H locs ls hP hD hS hl)
theorem g_icmp_ne (C : CX p s m args c cc nL own Ts D cl tys) {a b : Int} {off : Int} {tgt : Nat} (hd : decode cc pc = .ok (.if_icmp .ne off, 3)) (ht : (pc : Int) + off = (tgt : Int)) (hn : pc + 3 = n) (ha : r32 a) (hb : r32 b) (kt : a ≠ b → GG p l e R s m args below meth c D cl A nL nc ns Q w x lv tgt st) (kf : a = b → GG p l e R s m args below meth c D cl A nL nc ns Q w x lv n st) : GG p l e R s m args below meth c D cl A nL nc ns Q w x lv pc (.int (iI b) :: .int (iI a) :: st) :=
  fun H locs ls hP hD hS hl => by
    subst hn
    exact lv_icmp_ne C.1 C.2.1 hd ht (fun h => kt (fun q => h ((iI_eq ha hb).mpr q)) H locs ls hP hD hS hl) (fun h => kf ((iI_eq ha hb).mp h) H locs ls hP hD hS hl)
theorem g_icmp_lt (C : CX p s m args c cc nL own Ts D cl tys) {a b : Int} {off : Int} {tgt : Nat} (hd : decode cc pc = .ok (.if_icmp .lt off, 3)) (ht : (pc : Int) + off = (tgt : Int)) (hn : pc + 3 = n) (ha : r32 a) (hb : r32 b) (kt : a < b → GG p l e R s m args below meth c D cl A nL nc ns Q w x lv tgt st) (kf : b ≤ a → GG p l e R s m args below meth c D cl A nL nc ns Q w x lv n st) : GG p l e R s m args below meth c D cl A nL nc ns Q w x lv pc (.int (iI b) :: .int (iI a) :: st) :=
  fun H locs ls hP hD hS hl => by
    subst hn
    exact lv_icmp_lt C.1 C.2.1 hd ht (fun h => kt ((iI_lt ha hb).mp h) H locs ls hP hD hS hl) (fun h => kf (Int.not_lt.mp (fun q => h ((iI_lt ha hb).mpr q))) H locs ls hP hD hS hl)
theorem g_icmp_ge (C : CX p s m args c cc nL own Ts D cl tys) {a b : Int} {off : Int} {tgt : Nat} (hd : decode cc pc = .ok (.if_icmp .ge off, 3)) (ht : (pc : Int) + off = (tgt : Int)) (hn : pc + 3 = n) (ha : r32 a) (hb : r32 b) (kt : b ≤ a → GG p l e R s m args below meth c D cl A nL nc ns Q w x lv tgt st) (kf : a < b → GG p l e R s m args below meth c D cl A nL nc ns Q w x lv n st) : GG p l e R s m args below meth c D cl A nL nc ns Q w x lv pc (.int (iI b) :: .int (iI a) :: st) :=
  fun H locs ls hP hD hS hl => by
    subst hn
    exact lv_icmp_ge C.1 C.2.1 hd ht (fun h => kt ((iI_le hb ha).mp h) H locs ls hP hD hS hl) (fun h => kf (Int.not_le.mp (fun q => h ((iI_le hb ha).mpr q))) H locs ls hP hD hS hl)
theorem g_icmp_gt (C : CX p s m args c cc nL own Ts D cl tys) {a b : Int} {off : Int} {tgt : Nat} (hd : decode cc pc = .ok (.if_icmp .gt off, 3)) (ht : (pc : Int) + off = (tgt : Int)) (hn : pc + 3 = n) (ha : r32 a) (hb : r32 b) (kt : b < a → GG p l e R s m args below meth c D cl A nL nc ns Q w x lv tgt st) (kf : a ≤ b → GG p l e R s m args below meth c D cl A nL nc ns Q w x lv n st) : GG p l e R s m args below meth c D cl A nL nc ns Q w x lv pc (.int (iI b) :: .int (iI a) :: st) :=
  fun H locs ls hP hD hS hl => by
    subst hn
    exact lv_icmp_gt C.1 C.2.1 hd ht (fun h => kt ((iI_lt hb ha).mp h) H locs ls hP hD hS hl) (fun h => kf (Int.not_lt.mp (fun q => h ((iI_lt hb ha).mpr q))) H locs ls hP hD hS hl)
theorem g_icmp_le (C : CX p s m args c cc nL own Ts D cl tys) {a b : Int} {off : Int} {tgt : Nat} (hd : decode cc pc = .ok (.if_icmp .le off, 3)) (ht : (pc : Int) + off = (tgt : Int)) (hn : pc + 3 = n) (ha : r32 a) (hb : r32 b) (kt : a ≤ b → GG p l e R s m args below meth c D cl A nL nc ns Q w x lv tgt st) (kf : b < a → GG p l e R s m args below meth c D cl A nL nc ns Q w x lv n st) : GG p l e R s m args below meth c D cl A nL nc ns Q w x lv pc (.int (iI b) :: .int (iI a) :: st) :=
  fun H locs ls hP hD hS hl => by
    subst hn
    exact lv_icmp_le C.1 C.2.1 hd ht (fun h => kt ((iI_le ha hb).mp h) H locs ls hP hD hS hl) (fun h => kf (Int.not_le.mp (fun q => h ((iI_le ha hb).mpr q))) H locs ls hP hD hS hl)
theorem g_if_eq (C : CX p s m args c cc nL own Ts D cl tys) {a : Int} {off : Int} {tgt : Nat} (hd : decode cc pc = .ok (.ifCond .eq off, 3)) (ht : (pc : Int) + off = (tgt : Int)) (hn : pc + 3 = n) (ha : r32 a) (kt : a = 0 → GG p l e R s m args below meth c D cl A nL nc ns Q w x lv tgt st) (kf : a ≠ 0 → GG p l e R s m args below meth c D cl A nL nc ns Q w x lv n st) : GG p l e R s m args below meth c D cl A nL nc ns Q w x lv pc (.int (iI a) :: st) :=
  fun H locs ls hP hD hS hl => by
    subst hn
    have hb := r32_0
    exact lv_if_eq C.1 C.2.1 hd ht (fun h => kt ((iI_eq ha hb).mp h) H locs ls hP hD hS hl) (fun h => kf (fun q => h ((iI_eq ha hb).mpr q)) H locs ls hP hD hS hl)
theorem g_if_ne (C : CX p s m args c cc nL own Ts D cl tys) {a : Int} {off : Int} {tgt : Nat} (hd : decode cc pc = .ok (.ifCond .ne off, 3)) (ht : (pc : Int) + off = (tgt : Int)) (hn : pc + 3 = n) (ha : r32 a) (kt : a ≠ 0 → GG p l e R s m args below meth c D cl A nL nc ns Q w x lv tgt st) (kf : a = 0 → GG p l e R s m args below meth c D cl A nL nc ns Q w x lv n st) : GG p l e R s m args below meth c D cl A nL nc ns Q w x lv pc (.int (iI a) :: st) :=
  fun H locs ls hP hD hS hl => by
    subst hn
    have hb := r32_0
    exact lv_if_ne C.1 C.2.1 hd ht (fun h => kt (fun q => h ((iI_eq ha hb).mpr q)) H locs ls hP hD hS hl) (fun h => kf ((iI_eq ha hb).mp h) H locs ls hP hD hS hl)
theorem g_if_lt (C : CX p s m args c cc nL own Ts D cl tys) {a : Int} {off : Int} {tgt : Nat} (hd : decode cc pc = .ok (.ifCond .lt off, 3)) (ht : (pc : Int) + off = (tgt : Int)) (hn : pc + 3 = n) (ha : r32 a) (kt : a < 0 → GG p l e R s m args below meth c D cl A nL nc ns Q w x lv tgt st) (kf : 0 ≤ a → GG p l e R s m args below meth c D cl A nL nc ns Q w x lv n st) : GG p l e R s m args below meth c D cl A nL nc ns Q w x lv pc (.int (iI a) :: st) :=
  fun H locs ls hP hD hS hl => by
    subst hn
    have hb := r32_0
    exact lv_if_lt C.1 C.2.1 hd ht (fun h => kt ((iI_lt ha hb).mp h) H locs ls hP hD hS hl) (fun h => kf (Int.not_lt.mp (fun q => h ((iI_lt ha hb).mpr q))) H locs ls hP hD hS hl)
theorem g_if_ge (C : CX p s m args c cc nL own Ts D cl tys) {a : Int} {off : Int} {tgt : Nat} (hd : decode cc pc = .ok (.ifCond .ge off, 3)) (ht : (pc : Int) + off = (tgt : Int)) (hn : pc + 3 = n) (ha : r32 a) (kt : 0 ≤ a → GG p l e R s m args below meth c D cl A nL nc ns Q w x lv tgt st) (kf : a < 0 → GG p l e R s m args below meth c D cl A nL nc ns Q w x lv n st) : GG p l e R s m args below meth c D cl A nL nc ns Q w x lv pc (.int (iI a) :: st) :=
  fun H locs ls hP hD hS hl => by
    subst hn
    have hb := r32_0
    exact lv_if_ge C.1 C.2.1 hd ht (fun h => kt ((iI_le hb ha).mp h) H locs ls hP hD hS hl) (fun h => kf (Int.not_le.mp (fun q => h ((iI_le hb ha).mpr q))) H locs ls hP hD hS hl)
theorem g_if_gt (C : CX p s m args c cc nL own Ts D cl tys) {a : Int} {off : Int} {tgt : Nat} (hd : decode cc pc = .ok (.ifCond .gt off, 3)) (ht : (pc : Int) + off = (tgt : Int)) (hn : pc + 3 = n) (ha : r32 a) (kt : 0 < a → GG p l e R s m args below meth c D cl A nL nc ns Q w x lv tgt st) (kf : a ≤ 0 → GG p l e R s m args below meth c D cl A nL nc ns Q w x lv n st) : GG p l e R s m args below meth c D cl A nL nc ns Q w x lv pc (.int (iI a) :: st) :=
  fun H locs ls hP hD hS hl => by
    subst hn
    have hb := r32_0
    exact lv_if_gt C.1 C.2.1 hd ht (fun h => kt ((iI_lt hb ha).mp h) H locs ls hP hD hS hl) (fun h => kf (Int.not_lt.mp (fun q => h ((iI_lt hb ha).mpr q))) H locs ls hP hD hS hl)
theorem g_if_le (C : CX p s m args c cc nL own Ts D cl tys) {a : Int} {off : Int} {tgt : Nat} (hd : decode cc pc = .ok (.ifCond .le off, 3)) (ht : (pc : Int) + off = (tgt : Int)) (hn : pc + 3 = n) (ha : r32 a) (kt : a ≤ 0 → GG p l e R s m args below meth c D cl A nL nc ns Q w x lv tgt st) (kf : 0 < a → GG p l e R s m args below meth c D cl A nL nc ns Q w x lv n st) : GG p l e R s m args below meth c D cl A nL nc ns Q w x lv pc (.int (iI a) :: st) :=
  fun H locs ls hP hD hS hl => by
    subst hn
    have hb := r32_0
    exact lv_if_le C.1 C.2.1 hd ht (fun h => kt ((iI_le ha hb).mp h) H locs ls hP hD hS hl) (fun h => kf (Int.not_le.mp (fun q => h ((iI_le ha hb).mpr q))) H locs ls hP hD hS hl)
theorem g_goto (C : CX p s m args c cc nL own Ts D cl tys) {off : Int} {tgt : Nat} (hd : decode cc pc = .ok (.goto off, 3)) (ht : (pc : Int) + off = (tgt : Int)) (k : GG p l e R s m args below meth c D cl A nL nc ns Q w x lv tgt st) : GG p l e R s m args below meth c D cl A nL nc ns Q w x lv pc st :=
  fun H locs ls hP hD hS hl => lv_goto C.1 C.2.1 hd ht (k H locs ls hP hD hS hl)
theorem g_nm {z : Int} (k : ∀ y : Int, y = z → GG p l e R s m args below meth c D cl A nL nc ns Q w x lv pc (.int (iI y) :: st)) : GG p l e R s m args below meth c D cl A nL nc ns Q w x lv pc (.int (iI z) :: st) := k z rfl
theorem g_nml {z : Int} (k : ∀ y : Int, y = z → GG p l e R s m args below meth c D cl A nL nc ns Q w x lv pc (.long (lI y) :: st)) : GG p l e R s m args below meth c D cl A nL nc ns Q w x lv pc (.long (lI z) :: st) := k z rfl
/-- -1, 0 or 1 -/
def sg (a b : Int) : Int := if b < a then 1 else if a = b then 0 else -1
theorem sg_r (a b : Int) : r32 (sg a b) := by unfold sg; split; decide; split <;> decide
theorem sg_le {a b : Int} : sg a b ≤ 0 ↔ a ≤ b := by unfold sg; split; omega; split <;> omega
theorem sg_ge {a b : Int} : 0 ≤ sg a b ↔ b ≤ a := by unfold sg; split; omega; split <;> omega
theorem sg_lt {a b : Int} : sg a b < 0 ↔ a < b := by unfold sg; split; omega; split <;> omega
theorem sg_gt {a b : Int} : 0 < sg a b ↔ b < a := by unfold sg; split; omega; split <;> omega
theorem g_lcmp (C : CX p s m args c cc nL own Ts D cl tys) {a b : Int} (hd : decode cc pc = .ok (.lcmp, 1)) (ha : r64 a) (hb : r64 b) (hn : pc + 1 = n) (k : GG p l e R s m args below meth c D cl A nL nc ns Q w x lv n (.int (iI (sg a b)) :: st)) : GG p l e R s m args below meth c D cl A nL nc ns Q w x lv pc (.long (lI b) :: .long (lI a) :: st) :=
  fun H locs ls hP hD hS hl => by
    subst hn
    refine W.lcmp C.1 C.2.1 hd ?_
    have h := k H locs ls hP hD hS hl
    have e1 := lI_lt hb ha
    have e3 : lI a = lI b ↔ a = b := by rw [← Int64.toInt_inj, lI_t ha, lI_t hb]
    have e : lg_cmp (lI a) (lI b) = iI (sg a b) := by
      unfold lg_cmp sg
      by_cases c1 : b < a
      · rw [if_pos (e1.mpr c1), if_pos c1]; rfl
      · rw [if_neg (fun q => c1 (e1.mp q)), if_neg c1]
        by_cases c2 : a = b
        · rw [if_pos (e3.mpr c2), if_pos c2]; rfl
        · rw [if_neg (fun q => c2 (e3.mp q)), if_neg c2]; rfl
    rw [e]
    exact h
theorem GG.lvs (h : ∀ q ∈ lv', lk lv q.1 = some q.2) (k : GG p l e R s m args below meth c D cl A nL nc ns Q w x lv' pc st) : GG p l e R s m args below meth c D cl A nL nc ns Q w x lv pc st :=
  fun H locs ls hP hD hS hl => k H locs ls hP hD hS ⟨hl.1, hl.2.1, fun q hq => lk_at (nL := nL) hl.2.2 (h q hq)⟩
theorem GG.at {x' : τ} (h : x = x') (k : GG p l e R s m args below meth c D cl A nL nc ns Q w x' lv pc st) : GG p l e R s m args below meth c D cl A nL nc ns Q w x lv pc st := h ▸ k
/-! fields -/
theorem g_get (C : CX p s m args c cc nL own Ts D cl tys) {ref Cn : String} {T : u_T} {N ci index a : Nat} {fs : List Value} {v : Value} (q0 k : Nat) (hin : ∀ wd ∈ u_ws Cn T N, wd ∈ Ts) (he : (w x)[q0]? = some (a, .inr (ci, fs))) (hc : cl[ci]? = some (Cn, T, N)) (hk : k < N) (hlink : Cond.fieldLink own index ref (T k).2.1 (T k).2.2.1 ∈ Ts) (hs : (T k).1 = ref) (hv : fs[k]? = some v) (hd : decode cc pc = .ok (.getfield index, 3)) (hn : pc + 3 = n)
    (kk : GG p l e R s m args below meth c D cl A nL nc ns Q w x lv n (v :: st)) : GG p l e R s m args below meth c D cl A nL nc ns Q w x lv pc (.ref a :: st) :=
  fun H locs ls hP hD hS hl => by
    subst hn
    exact va_get C.1 C.2.1 C.2.2.2.2.1 hin C.2.2.2.1 C.2.2.2.2.2 hP q0 he hc k hk (C.2.2.2.2.1 _ hlink) (fun y hy => hs ▸ hy) hv hd (kk H locs ls hP hD hS hl)
theorem g_getN (C : CX p s m args c cc nL own Ts D cl tys) {ref Cn host : String} {T : u_T} {N ci index a : Nat} {fs : List Value} {v : Value} (q0 k : Nat) (hin : ∀ wd ∈ u_ws Cn T N, wd ∈ Ts) (he : (w x)[q0]? = some (a, .inr (ci, fs))) (hc : cl[ci]? = some (Cn, T, N)) (hk : k < N) (hlink : Cond.fieldLinkNest own index ref (T k).2.1 (T k).2.2.1 host ∈ Ts) (hs : (T k).1 = ref) (hv : fs[k]? = some v) (hd : decode cc pc = .ok (.getfield index, 3)) (hn : pc + 3 = n)
    (kk : GG p l e R s m args below meth c D cl A nL nc ns Q w x lv n (v :: st)) : GG p l e R s m args below meth c D cl A nL nc ns Q w x lv pc (.ref a :: st) :=
  fun H locs ls hP hD hS hl => by
    subst hn
    exact va_getN C.1 C.2.1 C.2.2.2.2.1 hin C.2.2.2.1 C.2.2.2.2.2 hP q0 he hc k hk (C.2.2.2.2.1 _ hlink) (fun y hy => hs ▸ hy) hv hd (kk H locs ls hP hD hS hl)
theorem g_put (C : CX p s m args c cc nL own Ts D cl tys) {ref Cn : String} {T : u_T} {N ci index a : Nat} {fs : List Value} {v : Value} {ty : FieldType} {x' : τ} (q0 k : Nat) (ty0 : Nat → FieldType) (hin : ∀ wd ∈ u_ws Cn T N, wd ∈ Ts) (hty : ∀ k, k < N → parseFieldDescriptor (T k).2.2.1 = some (ty0 k)) (hnm : ∀ a, a < N → ∀ b, b < N → a ≠ b → (T a).2.1 ≠ (T b).2.1) (he : (w x)[q0]? = some (a, .inr (ci, fs))) (hc : cl[ci]? = some (Cn, T, N)) (hk : k < N) (hlink : Cond.fieldLink own index ref (T k).2.1 (T k).2.2.1 ∈ Ts) (hs : (T k).1 = ref) (hfin : (T k).2.2.2 = false) (hp : parseFieldDescriptor (T k).2.2.1 = some ty) (hnar : narrow ty v = v) (hfit : fits ty v = true) (hlen : k < fs.length) (hw : (w x).set q0 (a, .inr (ci, fs.set k v)) = w x') (hd : decode cc pc = .ok (.putfield index, 3)) (hn : pc + 3 = n)
    (kk : GG p l e R s m args below meth c D cl A nL nc ns Q w x' lv n st) : GG p l e R s m args below meth c D cl A nL nc ns Q w x lv pc (v :: .ref a :: st) :=
  fun H locs ls hP hD hS hl => by
    subst hn
    refine va_put C.1 C.2.1 C.2.2.2.2.1 hin ty0 hty hnm C.2.2.2.1 C.2.2.2.2.2 hP hD hS q0 he hc k hk (C.2.2.2.2.1 _ hlink) (fun y hy => hs ▸ hy) hfin hp hnar hfit hlen hd (fun H1 locs1 hP1 hD1 hS1 => ?_)
    rw [hw] at hP1 hD1
    exact kk H1 locs1 ls hP1 hD1 hS1 hl
theorem g_putN (C : CX p s m args c cc nL own Ts D cl tys) {ref Cn host : String} {T : u_T} {N ci index a : Nat} {fs : List Value} {v : Value} {ty : FieldType} {x' : τ} (q0 k : Nat) (ty0 : Nat → FieldType) (hin : ∀ wd ∈ u_ws Cn T N, wd ∈ Ts) (hty : ∀ k, k < N → parseFieldDescriptor (T k).2.2.1 = some (ty0 k)) (hnm : ∀ a, a < N → ∀ b, b < N → a ≠ b → (T a).2.1 ≠ (T b).2.1) (he : (w x)[q0]? = some (a, .inr (ci, fs))) (hc : cl[ci]? = some (Cn, T, N)) (hk : k < N) (hlink : Cond.fieldLinkNest own index ref (T k).2.1 (T k).2.2.1 host ∈ Ts) (hs : (T k).1 = ref) (hfin : (T k).2.2.2 = false) (hp : parseFieldDescriptor (T k).2.2.1 = some ty) (hnar : narrow ty v = v) (hfit : fits ty v = true) (hlen : k < fs.length) (hw : (w x).set q0 (a, .inr (ci, fs.set k v)) = w x') (hd : decode cc pc = .ok (.putfield index, 3)) (hn : pc + 3 = n)
    (kk : GG p l e R s m args below meth c D cl A nL nc ns Q w x' lv n st) : GG p l e R s m args below meth c D cl A nL nc ns Q w x lv pc (v :: .ref a :: st) :=
  fun H locs ls hP hD hS hl => by
    subst hn
    refine va_putN C.1 C.2.1 C.2.2.2.2.1 hin ty0 hty hnm C.2.2.2.1 C.2.2.2.2.2 hP hD hS q0 he hc k hk (C.2.2.2.2.1 _ hlink) (fun y hy => hs ▸ hy) hfin hp hnar hfit hlen hd (fun H1 locs1 hP1 hD1 hS1 => ?_)
    rw [hw] at hP1 hD1
    exact kk H1 locs1 ls hP1 hD1 hS1 hl
/-! arrays -/
def ia (f : Int → Int) : Nat → Int32 := fun j => iI (f (j : Int))
def la (f : Int → Int) : Nat → Int64 := fun j => lI (f (j : Int))
theorem ia_at {f : Int → Int} {z : Int} (h0 : 0 ≤ z) (h1 : z < 2147483648) : ia f (iI z).toNatClampNeg = iI (f z) := by
  unfold ia
  rw [iI_cl h0 h1, Int.toNat_of_nonneg h0]
theorem la_at {f : Int → Int} {z : Int} (h0 : 0 ≤ z) (h1 : z < 2147483648) : la f (iI z).toNatClampNeg = lI (f z) := by
  unfold la
  rw [iI_cl h0 h1, Int.toNat_of_nonneg h0]
theorem ia_up {f : Int → Int} {z v : Int} (h0 : 0 ≤ z) (h1 : z < 2147483648) : upd (ia f) (iI z).toNatClampNeg (iI v) = ia (up_ f z v) := by
  funext j
  unfold upd ia up_
  rw [iI_cl h0 h1]
  by_cases c : j = z.toNat
  · rw [if_pos c, if_pos (by omega)]
  · rw [if_neg c, if_neg (by omega)]
theorem la_up {f : Int → Int} {z v : Int} (h0 : 0 ≤ z) (h1 : z < 2147483648) : vp_updL (la f) (iI z).toNatClampNeg (lI v) = la (up_ f z v) := by
  funext j
  unfold vp_updL la up_
  rw [iI_cl h0 h1]
  by_cases c : j = z.toNat
  · rw [if_pos c, if_pos (by omega)]
  · rw [if_neg c, if_neg (by omega)]
theorem g_iald (C : CX p s m args c cc nL own Ts D cl tys) {a N : Nat} {cA : ClassId} {f : Int → Int} {z : Int} (q0 t0 : Nat) (he : (w x)[q0]? = some (a, .inl (cA, N, .inl (ia f)))) (ht : tys[t0]? = some (cA, .int)) (h0 : 0 ≤ z) (h1 : z < N) (hN : N < 2147483648) (hd : decode cc pc = .ok (.iaload, 1)) (hn : pc + 1 = n)
    (kk : GG p l e R s m args below meth c D cl A nL nc ns Q w x lv n (.int (iI (f z)) :: st)) : GG p l e R s m args below meth c D cl A nL nc ns Q w x lv pc (.int (iI z) :: .ref a :: st) :=
  fun H locs ls hP hD hS hl => by
    subst hn
    refine va_iald C.1 C.2.1 C.2.2.2.2.2 hP q0 t0 he ht (iI_in h0 h1 hN) hd ?_
    rw [ia_at h0 (by omega)]
    exact kk H locs ls hP hD hS hl
theorem g_zald (C : CX p s m args c cc nL own Ts D cl tys) {a N : Nat} {cA : ClassId} {f : Int → Int} {z : Int} (q0 t0 : Nat) (he : (w x)[q0]? = some (a, .inl (cA, N, .inl (ia f)))) (ht : tys[t0]? = some (cA, .boolean)) (h0 : 0 ≤ z) (h1 : z < N) (hN : N < 2147483648) (hd : decode cc pc = .ok (.baload, 1)) (hn : pc + 1 = n)
    (kk : GG p l e R s m args below meth c D cl A nL nc ns Q w x lv n (.int (iI (f z)) :: st)) : GG p l e R s m args below meth c D cl A nL nc ns Q w x lv pc (.int (iI z) :: .ref a :: st) :=
  fun H locs ls hP hD hS hl => by
    subst hn
    refine va_zald C.1 C.2.1 C.2.2.2.2.2 hP q0 t0 he ht (iI_in h0 h1 hN) hd ?_
    rw [ia_at h0 (by omega)]
    exact kk H locs ls hP hD hS hl
theorem g_lald (C : CX p s m args c cc nL own Ts D cl tys) {a N : Nat} {cA : ClassId} {f : Int → Int} {z : Int} (q0 t0 : Nat) (he : (w x)[q0]? = some (a, .inl (cA, N, .inr (.inl (la f))))) (ht : tys[t0]? = some (cA, .long)) (h0 : 0 ≤ z) (h1 : z < N) (hN : N < 2147483648) (hd : decode cc pc = .ok (.laload, 1)) (hn : pc + 1 = n)
    (kk : GG p l e R s m args below meth c D cl A nL nc ns Q w x lv n (.long (lI (f z)) :: st)) : GG p l e R s m args below meth c D cl A nL nc ns Q w x lv pc (.int (iI z) :: .ref a :: st) :=
  fun H locs ls hP hD hS hl => by
    subst hn
    refine va_lald C.1 C.2.1 C.2.2.2.2.2 hP q0 t0 he ht (iI_in h0 h1 hN) hd ?_
    rw [la_at h0 (by omega)]
    exact kk H locs ls hP hD hS hl
theorem g_iast (C : CX p s m args c cc nL own Ts D cl tys) {a N : Nat} {cA : ClassId} {f : Int → Int} {z v : Int} {x' : τ} (q0 t0 : Nat) (he : (w x)[q0]? = some (a, .inl (cA, N, .inl (ia f)))) (ht : tys[t0]? = some (cA, .int)) (h0 : 0 ≤ z) (h1 : z < N) (hN : N < 2147483648) (hw : (w x).set q0 (a, .inl (cA, N, .inl (ia (up_ f z v)))) = w x') (hd : decode cc pc = .ok (.iastore, 1)) (hn : pc + 1 = n)
    (kk : GG p l e R s m args below meth c D cl A nL nc ns Q w x' lv n st) : GG p l e R s m args below meth c D cl A nL nc ns Q w x lv pc (.int (iI v) :: .int (iI z) :: .ref a :: st) :=
  fun H locs ls hP hD hS hl => by
    subst hn
    refine va_iast C.1 C.2.1 C.2.2.2.2.2 hP hD hS q0 t0 he ht (iI_in h0 h1 hN) hd (fun H1 locs1 hP1 hD1 hS1 => ?_)
    rw [ia_up h0 (by omega), hw] at hP1 hD1
    exact kk H1 locs1 ls hP1 hD1 hS1 hl
theorem nar_z {v : Int} (h : v = 0 ∨ v = 1) : vp_nar .boolean (iI v) = iI v := by rcases h with rfl | rfl <;> decide +kernel
theorem g_zast (C : CX p s m args c cc nL own Ts D cl tys) {a N : Nat} {cA : ClassId} {f : Int → Int} {z v : Int} {x' : τ} (q0 t0 : Nat) (he : (w x)[q0]? = some (a, .inl (cA, N, .inl (ia f)))) (ht : tys[t0]? = some (cA, .boolean)) (h0 : 0 ≤ z) (h1 : z < N) (hN : N < 2147483648) (hv : v = 0 ∨ v = 1) (hw : (w x).set q0 (a, .inl (cA, N, .inl (ia (up_ f z v)))) = w x') (hd : decode cc pc = .ok (.bastore, 1)) (hn : pc + 1 = n)
    (kk : GG p l e R s m args below meth c D cl A nL nc ns Q w x' lv n st) : GG p l e R s m args below meth c D cl A nL nc ns Q w x lv pc (.int (iI v) :: .int (iI z) :: .ref a :: st) :=
  fun H locs ls hP hD hS hl => by
    subst hn
    refine va_zast C.1 C.2.1 C.2.2.2.2.2 hP hD hS q0 t0 he ht (iI_in h0 h1 hN) hd (fun H1 locs1 hP1 hD1 hS1 => ?_)
    rw [nar_z hv, ia_up h0 (by omega), hw] at hP1 hD1
    exact kk H1 locs1 ls hP1 hD1 hS1 hl
theorem g_last (C : CX p s m args c cc nL own Ts D cl tys) {a N : Nat} {cA : ClassId} {f : Int → Int} {z v : Int} {x' : τ} (q0 t0 : Nat) (he : (w x)[q0]? = some (a, .inl (cA, N, .inr (.inl (la f))))) (ht : tys[t0]? = some (cA, .long)) (h0 : 0 ≤ z) (h1 : z < N) (hN : N < 2147483648) (hw : (w x).set q0 (a, .inl (cA, N, .inr (.inl (la (up_ f z v))))) = w x') (hd : decode cc pc = .ok (.lastore, 1)) (hn : pc + 1 = n)
    (kk : GG p l e R s m args below meth c D cl A nL nc ns Q w x' lv n st) : GG p l e R s m args below meth c D cl A nL nc ns Q w x lv pc (.long (lI v) :: .int (iI z) :: .ref a :: st) :=
  fun H locs ls hP hD hS hl => by
    subst hn
    refine va_last C.1 C.2.1 C.2.2.2.2.2 hP hD hS q0 t0 he ht (iI_in h0 h1 hN) hd (fun H1 locs1 hP1 hD1 hS1 => ?_)
    rw [la_up h0 (by omega), hw] at hP1 hD1
    exact kk H1 locs1 ls hP1 hD1 hS1 hl
end GR
end
section
/-! contracts over the worlds w x, and calls -/
def adr (ws : va_W) : Nat → Prop := fun q => ∃ (k : Nat) (e : va_E), ws[k]? = some (q, e)
def PcW {τ : Type} (D : va_G) (cl : List vw_C) (tys : List (ClassId × FieldType)) (w : τ → va_W) (x : τ) (av : List Value) : Array Value → State → Prop := va_Pc av (fun U => va_P D cl (w x) U.heap ∧ va_K D cl tys U ∧ va_D (fun _ => True) (w x))
def QcW {τ : Type} (D : va_G) (cl : List vw_C) (w : τ → va_W) (x : τ) (post : Option Value → τ → Prop) : Array Value → State → Outcome → State → Prop := fun _ st oc t => (∃ (v : Option Value) (x' : τ), oc = .returned v ∧ post v x' ∧ va_P D cl (w x') t.heap) ∧ va_F (adr (w x)) st t
def MM {τ : Type} (l : Launch) (D : va_G) (cl : List vw_C) (tys : List (ClassId × FieldType)) (w : τ → va_W) (y : MethodName) (ws : List Cond) (rm : Room) (av : List Value) (x : τ) (post : Option Value → τ → Prop) : Prop := Met l y ws rm (PcW D cl tys w x av) (QcW D cl w x post) 0 0 (adr (w x))
def pI {τ : Type} (f : Int → τ → Prop) : Option Value → τ → Prop := fun v x => ∃ z, v = some (.int (iI z)) ∧ f z x
def pL {τ : Type} (f : Int → τ → Prop) : Option Value → τ → Prop := fun v x => ∃ z, v = some (.long (lI z)) ∧ f z x
def pV {τ : Type} (f : τ → Prop) : Option Value → τ → Prop := fun v x => v = none ∧ f x
/-- the cells stay where they are -/
def fixD {τ : Type} (w : τ → va_W) : Prop := ∀ (x x' : τ), (w x).map Prod.fst = (w x').map Prod.fst
theorem D_map {A : Nat → Prop} {w1 w2 : va_W} (h : w1.map Prod.fst = w2.map Prod.fst) (hD : va_D A w1) : va_D A w2 := by
  have key : ∀ (i : Nat) (q : Nat × va_E), w2[i]? = some q → ∃ q0, w1[i]? = some q0 ∧ q0.1 = q.1 := by
    intro i q hq
    have h1 : (w1.map Prod.fst)[i]? = some q.1 := by rw [h, List.getElem?_map, hq]; rfl
    rw [List.getElem?_map] at h1
    cases h2 : w1[i]? with
    | none => rw [h2] at h1; cases h1
    | some q0 => rw [h2] at h1; exact ⟨q0, rfl, Option.some.inj h1⟩
  refine ⟨fun i j x y hi hj hxy => ?_, fun k q hk => ?_⟩
  · obtain ⟨x0, h1, h2⟩ := key i x hi
    obtain ⟨y0, h3, h4⟩ := key j y hj
    exact hD.1 i j x0 y0 h1 h3 (h2.trans (hxy.trans h4.symm))
  · obtain ⟨q0, h1, h2⟩ := key k q hk
    rw [← h2]
    exact hD.2 k q0 h1
theorem blindW {τ : Type} {D : va_G} {cl : List vw_C} {tys : List (ClassId × FieldType)} {w : τ → va_W} {x : τ} {av : List Value} : FrameBlind (PcW D cl tys w x av) :=
  fun a U g mk q => ⟨q.1, q.2.1, va_K.moved (u := U) (U := U.calling g mk a) (Vm.Alike.refl U.vm) q.2.2.1, q.2.2.2⟩
theorem MM.mk {τ : Type} {l : Launch} {D : va_G} {cl : List vw_C} {tys : List (ClassId × FieldType)} {w : τ → va_W} {y : MethodName} {ws ws' : List Cond} {rm : Room} {av : List Value} {x : τ} {post : Option Value → τ → Prop} {own : String} (cc : ByteArray) (maxL : Nat) (ret : Option FieldType) (hy : plainName y.cls = true) (ho : y.cls = own) (hw : ws = Cond.code y cc maxL ret :: ws') (hal : (lg_sl av).length ≤ maxL)
    (body : ∀ (p : Program) (e : Env) (s : State) (m : MethodId) (args : Array Value) (below : List Frame) (meth : Method) (c : Code), CX p s m args c cc maxL own ws D cl tys → meth.sig.returnType = ret → meth.locks = false →
      GG p l e rm s m args below meth c D cl (adr (w x)) maxL 0 0 (MQ below (QcW D cl w x post) args s 0 0 (adr (w x))) w x (lv_args 0 av) 0 []) : MM l D cl tys w y ws rm av x post := by
  refine Met.ofW (cc := cc) (maxL := maxL) (ret := ret) hy hw ?_
  intro p e s m args below meth c s₁ B hml hv
  obtain ⟨rfl, hP, hK, hD⟩ := hv
  have hts := atoms_spec (ws := ws) B.pre
  have hown : s.vm.findClass y.cls = some m.cls := findClass_of_methodNamed B.named
  rw [ho] at hown
  have hl := lv_entry av (n := maxL) hal
  rw [lg_entry_eq]
  exact body p e s m av.toArray below meth c ⟨B.exec, B.bytes, hml, hown, hts, hK⟩ B.returns B.notSynchronized s.heap [] _ hP ⟨hD.1, fun k q hk => ⟨k, q.2, hk⟩⟩ va_S.rf hl
section GC
variable {τ : Type} {p : Program} {l : Launch} {e : Env} {R : Room} {s : State} {m : MethodId} {args : Array Value} {below : List Frame} {meth : Method} {c : Code} {D : va_G} {cl : List vw_C} {tys : List (ClassId × FieldType)} {A : Nat → Prop} {nL nc ns : Nat} {Q : State → Prop} {w : τ → va_W} {x x0 : τ} {cc : ByteArray} {own : String} {Ts : List Cond} {lv lv' : List (Nat × Value)} {pc n : Nat} {st : List Value} {post : Option Value → τ → Prop}
theorem g_iret (C : CX p s m args c cc nL own Ts D cl tys) (hr : meth.sig.returnType = some .int) (hk : meth.locks = false) {y : Int} (hd : decode cc pc = .ok (.ireturn, 1)) (hp : post (some (.int (iI y))) x) : GG p l e R s m args below meth c D cl (adr (w x0)) nL 0 0 (MQ below (QcW D cl w x0 post) args s 0 0 (adr (w x0))) w x lv pc [.int (iI y)] :=
  fun H locs ls hP hD hS hl => W.iret C.1 C.2.1 hr (fun t ht _ => ⟨⟨_, x, rfl, hp, by rw [ht]; exact hP⟩, hS.F ht⟩) hS.2.2 hd hk
theorem g_zret (C : CX p s m args c cc nL own Ts D cl tys) (hr : meth.sig.returnType = some .boolean) (hk : meth.locks = false) {y : Int} (hy : y = 0 ∨ y = 1) (hd : decode cc pc = .ok (.ireturn, 1)) (hp : post (some (.int (iI y))) x) : GG p l e R s m args below meth c D cl (adr (w x0)) nL 0 0 (MQ below (QcW D cl w x0 post) args s 0 0 (adr (w x0))) w x lv pc [.int (iI y)] :=
  fun H locs ls hP hD hS hl => W.zret C.1 C.2.1 hr (by rcases hy with rfl | rfl <;> decide +kernel) (fun t ht _ => ⟨⟨_, x, rfl, hp, by rw [ht]; exact hP⟩, hS.F ht⟩) hS.2.2 hd hk
theorem g_lret (C : CX p s m args c cc nL own Ts D cl tys) (hr : meth.sig.returnType = some .long) (hk : meth.locks = false) {y : Int} (hd : decode cc pc = .ok (.lreturn, 1)) (hp : post (some (.long (lI y))) x) : GG p l e R s m args below meth c D cl (adr (w x0)) nL 0 0 (MQ below (QcW D cl w x0 post) args s 0 0 (adr (w x0))) w x lv pc [.long (lI y)] :=
  fun H locs ls hP hD hS hl => W.lret C.1 C.2.1 hr (fun t ht _ => ⟨⟨_, x, rfl, hp, by rw [ht]; exact hP⟩, hS.F ht⟩) hS.2.2 hd hk
theorem g_vret (C : CX p s m args c cc nL own Ts D cl tys) (hr : meth.sig.returnType = none) (hk : meth.locks = false) (hd : decode cc pc = .ok (.return_, 1)) (hp : post none x) : GG p l e R s m args below meth c D cl (adr (w x0)) nL 0 0 (MQ below (QcW D cl w x0 post) args s 0 0 (adr (w x0))) w x lv pc [] :=
  fun H locs ls hP hD hS hl => W.vret C.1 C.2.1 hr (fun t ht _ => ⟨⟨_, x, rfl, hp, by rw [ht]; exact hP⟩, hS.F ht⟩) hS.2.2 hd hk
theorem g_run {a : Array Value} {st0 : List Value} (hfix : fixD w) (hn : pc + 3 = n) (hr : ∀ (H : Heap) (locs : List Loc) (ls : Array Slot), va_P D cl (w x) H → va_D A (w x) → lv_has ls nL lv → va_Run p l e R s m args below meth c H locs nc ns 0 0 (F0 m pc ls st0) st (QcW D cl w x post a) (adr (w x)))
    (k : ∀ (v : Option Value) (x' : τ), post v x' → GG p l e R s m args below meth c D cl A nL nc ns Q w x' lv n (v.toList ++ st)) : GG p l e R s m args below meth c D cl A nL nc ns Q w x lv pc st0 := by
  subst hn
  intro H locs ls hP hD hS hl T hT X
  obtain ⟨v, st₀, t, T', L, h0, X', hL, e1, e2, ⟨⟨v', x', hv, hp, hPx⟩, hz, hk⟩, go⟩ := hr H locs ls hP hD hl T hT X
  cases hv
  have hsub : ∀ q, adr (w x) q → A q := fun q hq => by
    obtain ⟨k9, e9, h9⟩ := hq
    exact hD.2 k9 _ h9
  rw [h0] at hz hk
  obtain ⟨t2, a1, b1⟩ := k v x' hp T'.heap (locs ++ L) ls (by rw [e1]; exact hPx) (D_map (hfix x x') hD) ⟨Nat.le_trans hS.1 (by rw [e1]; exact hz), fun q h1 h2 => by
      rw [e1, hk q (Nat.lt_of_lt_of_le h1 hS.1) (fun z => h2 (hsub q z))]; exact hS.2.1 q h1 h2, fun q hq => by
      rcases List.mem_append.mp hq with h | h
      · exact hS.2.2 q h
      · exact hsub _ (hL q h)⟩ hl T' rfl X'
  exact ⟨t2, go t2 a1, b1⟩
end GC
end
section
/-! calls that see a part of the world -/
section GF2
variable {p : Program} {l : Launch} {e : Env} {R : Room} {s : State} {m : MethodId} {args : Array Value} {below : List Frame} {meth : Method} {c : Code} {D : va_G} {cl : List vw_C} {tys : List (ClassId × FieldType)} {A : Nat → Prop} {nL nc ns : Nat} {Q : State → Prop} {cc : ByteArray} {own : String} {Ts : List Cond} {lv lv' : List (Nat × Value)} {pc n : Nat} {st st0 : List Value} {a : Array Value}
theorem P_left {w1 w2 : va_W} {H : Heap} (h : va_P D cl (w1 ++ w2) H) : va_P D cl w1 H := fun k q hk => h k q (by
  rw [List.getElem?_append_left (List.getElem?_eq_some_iff.mp hk).1]; exact hk)
theorem P_right {w1 w2 : va_W} {H : Heap} (h : va_P D cl (w1 ++ w2) H) : va_P D cl w2 H := fun k q hk => h (w1.length + k) q (by
  rw [List.getElem?_append_right (Nat.le_add_right _ _), Nat.add_sub_cancel_left]; exact hk)
theorem D_left {w1 w2 : va_W} (h : va_D A (w1 ++ w2)) : va_D A w1 := by
  have up : ∀ (k : Nat) (q : Nat × va_E), w1[k]? = some q → (w1 ++ w2)[k]? = some q := fun k q hk => by
    rw [List.getElem?_append_left (List.getElem?_eq_some_iff.mp hk).1]; exact hk
  exact ⟨fun i j x y hi hj hxy => h.1 i j x y (up i x hi) (up j y hj) hxy, fun k q hk => h.2 k q (up k q hk)⟩
theorem D_right {w1 w2 : va_W} (h : va_D A (w1 ++ w2)) : va_D A w2 := by
  have up : ∀ (k : Nat) (q : Nat × va_E), w2[k]? = some q → (w1 ++ w2)[w1.length + k]? = some q := fun k q hk => by
    rw [List.getElem?_append_right (Nat.le_add_right _ _), Nat.add_sub_cancel_left]; exact hk
  exact ⟨fun i j x y hi hj hxy => by have := h.1 _ _ x y (up i x hi) (up j y hj) hxy; omega, fun k q hk => h.2 _ q (up k q hk)⟩
theorem D_cross {w1 w2 : va_W} (h : va_D A (w1 ++ w2)) {q : Nat} (h1 : adr w1 q) (h2 : adr w2 q) : False := by
  obtain ⟨i, e1, g1⟩ := h1
  obtain ⟨j, e2, g2⟩ := h2
  have l1 := (List.getElem?_eq_some_iff.mp g1).1
  have := h.1 i (w1.length + j) (q, e1) (q, e2) (by rw [List.getElem?_append_left l1]; exact g1) (by rw [List.getElem?_append_right (Nat.le_add_right _ _), Nat.add_sub_cancel_left]; exact g2) rfl
  omega
/-- a call that sees the first part -/
theorem g_run1 {τ υ : Type} {w1 : τ → va_W} {w2 : υ → va_W} {x : τ} {y : υ} {post : Option Value → τ → Prop} (hfix : fixD w1) (hn : pc + 3 = n) (hr : ∀ (H : Heap) (locs : List Loc) (ls : Array Slot), va_P D cl (w1 x) H → va_D A (w1 x) → lv_has ls nL lv → va_Run p l e R s m args below meth c H locs nc ns 0 0 (F0 m pc ls st0) st (QcW D cl w1 x post a) (adr (w1 x)))
    (k : ∀ (v : Option Value) (x' : τ), post v x' → GG p l e R s m args below meth c D cl A nL nc ns Q (fun z : τ × υ => w1 z.1 ++ w2 z.2) (x', y) lv n (v.toList ++ st)) : GG p l e R s m args below meth c D cl A nL nc ns Q (fun z : τ × υ => w1 z.1 ++ w2 z.2) (x, y) lv pc st0 := by
  subst hn
  intro H locs ls hP hD hS hl T hT X
  have hP : va_P D cl (w1 x ++ w2 y) H := hP
  have hD : va_D A (w1 x ++ w2 y) := hD
  obtain ⟨v, st₀, t, T', L, h0, X', hL, e1, e2, ⟨⟨v', x', hv, hp, hPx⟩, hz, hk⟩, go⟩ := hr H locs ls (P_left hP) (D_left hD) hl T hT X
  cases hv
  have hsub : ∀ q, adr (w1 x) q → A q := fun q hq => by
    obtain ⟨k9, e9, h9⟩ := hq
    exact (D_left hD).2 k9 _ h9
  rw [h0] at hz hk
  have hP2 : va_P D cl (w2 y) t.heap := (P_right hP).kept (fun k9 q9 h9 => hk q9.1 ((P_right hP) k9 q9 h9).lt (fun z => D_cross hD z ⟨k9, q9.2, h9⟩))
  have hD2 : va_D A (w1 x' ++ w2 y) := D_map (by rw [List.map_append, List.map_append, hfix x x']) hD
  obtain ⟨t2, a1, b1⟩ := k v x' hp T'.heap (locs ++ L) ls (by rw [e1]; exact hPx.app hP2) hD2 ⟨Nat.le_trans hS.1 (by rw [e1]; exact hz), fun q h1 h2 => by
      rw [e1, hk q (Nat.lt_of_lt_of_le h1 hS.1) (fun z => h2 (hsub q z))]; exact hS.2.1 q h1 h2, fun q hq => by
      rcases List.mem_append.mp hq with h | h
      · exact hS.2.2 q h
      · exact hsub _ (hL q h)⟩ hl T' rfl X'
  exact ⟨t2, go t2 a1, b1⟩
/-- a call that sees the second part -/
theorem g_run2 {τ υ : Type} {w1 : τ → va_W} {w2 : υ → va_W} {x : τ} {y : υ} {post : Option Value → υ → Prop} (hfix : fixD w2) (hn : pc + 3 = n) (hr : ∀ (H : Heap) (locs : List Loc) (ls : Array Slot), va_P D cl (w2 y) H → va_D A (w2 y) → lv_has ls nL lv → va_Run p l e R s m args below meth c H locs nc ns 0 0 (F0 m pc ls st0) st (QcW D cl w2 y post a) (adr (w2 y)))
    (k : ∀ (v : Option Value) (y' : υ), post v y' → GG p l e R s m args below meth c D cl A nL nc ns Q (fun z : τ × υ => w1 z.1 ++ w2 z.2) (x, y') lv n (v.toList ++ st)) : GG p l e R s m args below meth c D cl A nL nc ns Q (fun z : τ × υ => w1 z.1 ++ w2 z.2) (x, y) lv pc st0 := by
  subst hn
  intro H locs ls hP hD hS hl T hT X
  have hP : va_P D cl (w1 x ++ w2 y) H := hP
  have hD : va_D A (w1 x ++ w2 y) := hD
  obtain ⟨v, st₀, t, T', L, h0, X', hL, e1, e2, ⟨⟨v', y', hv, hp, hPy⟩, hz, hk⟩, go⟩ := hr H locs ls (P_right hP) (D_right hD) hl T hT X
  cases hv
  have hsub : ∀ q, adr (w2 y) q → A q := fun q hq => by
    obtain ⟨k9, e9, h9⟩ := hq
    exact (D_right hD).2 k9 _ h9
  rw [h0] at hz hk
  have hP1 : va_P D cl (w1 x) t.heap := (P_left hP).kept (fun k9 q9 h9 => hk q9.1 ((P_left hP) k9 q9 h9).lt (fun z => D_cross hD ⟨k9, q9.2, h9⟩ z))
  have hD2 : va_D A (w1 x ++ w2 y') := D_map (by rw [List.map_append, List.map_append, hfix y y']) hD
  obtain ⟨t2, a1, b1⟩ := k v y' hp T'.heap (locs ++ L) ls (by rw [e1]; exact hP1.app hPy) hD2 ⟨Nat.le_trans hS.1 (by rw [e1]; exact hz), fun q h1 h2 => by
      rw [e1, hk q (Nat.lt_of_lt_of_le h1 hS.1) (fun z => h2 (hsub q z))]; exact hS.2.1 q h1 h2, fun q hq => by
      rcases List.mem_append.mp hq with h | h
      · exact hS.2.2 q h
      · exact hsub _ (hL q h)⟩ hl T' rfl X'
  exact ⟨t2, go t2 a1, b1⟩
/-- a call that sees one cell -/
theorem g_run0 {τ υ : Type} {w : τ → va_W} {x : τ} {q1 : Nat} {g : υ → va_E} {y : υ} {nx : υ → τ} {post : Option Value → υ → Prop} (k0 : Nat) (he : (w x)[k0]? = some (q1, g y)) (hw : ∀ y', post none y' → (w x).set k0 (q1, g y') = w (nx y')) (hv0 : ∀ v y', post v y' → v = none) (hn : pc + 3 = n) (hr : ∀ (H : Heap) (locs : List Loc) (ls : Array Slot), va_P D cl [(q1, g y)] H → va_D A [(q1, g y)] → lv_has ls nL lv → va_Run p l e R s m args below meth c H locs nc ns 0 0 (F0 m pc ls st0) st (QcW D cl (fun z => [(q1, g z)]) y post a) (adr [(q1, g y)]))
    (k : ∀ (y' : υ), post none y' → GG p l e R s m args below meth c D cl A nL nc ns Q w (nx y') lv n st) : GG p l e R s m args below meth c D cl A nL nc ns Q w x lv pc st0 := by
  subst hn
  intro H locs ls hP hD hS hl T hT X
  have one : ∀ (k : Nat) (q : Nat × va_E), ([(q1, g y)] : va_W)[k]? = some q → k = 0 ∧ q = (q1, g y) := fun k q h => by
    have h0 : k < 1 := (List.getElem?_eq_some_iff.mp h).1
    have : k = 0 := by omega
    subst this
    cases h
    exact ⟨rfl, rfl⟩
  obtain ⟨v, st₀, t, T', L, h0, X', hL, e1, e2, ⟨⟨v', y', hv, hp, hPy⟩, hz, hk⟩, go⟩ := hr H locs ls (fun k q h => by obtain ⟨-, rfl⟩ := one k q h; exact hP k0 _ he) ⟨fun i j x y hi hj _ => by rw [(one i x hi).1, (one j y hj).1], fun k q h => by obtain ⟨-, rfl⟩ := one k q h; exact hD.2 k0 _ he⟩ hl T hT X
  cases hv
  obtain rfl := hv0 _ _ hp
  have ha : ∀ q, adr [(q1, g y)] q → q = q1 := fun q hq => by
    obtain ⟨k9, e9, h9⟩ := hq
    have := (one k9 _ h9).2
    exact congrArg Prod.fst this
  have hq1 : A q1 := hD.2 k0 _ he
  rw [h0] at hz hk
  have hl0 := (List.getElem?_eq_some_iff.mp he).1
  have hP2 : va_P D cl (w (nx y')) t.heap := by
    rw [← hw y' hp]
    intro k9 q9 h9
    by_cases c : k9 = k0
    · subst c
      rw [List.getElem?_set_self hl0] at h9
      cases h9
      exact hPy 0 _ rfl
    · rw [List.getElem?_set_ne (Ne.symm c)] at h9
      exact (hP k9 q9 h9).kept (hk q9.1 (hP k9 q9 h9).lt (fun z => c (hD.1 k9 k0 q9 _ h9 he (ha _ z))))
  have hD2 : va_D A (w (nx y')) := by rw [← hw y' hp]; exact hD.set he
  obtain ⟨t2, a1, b1⟩ := k y' hp T'.heap (locs ++ L) ls (by rw [e1]; exact hP2) hD2 ⟨Nat.le_trans hS.1 (by rw [e1]; exact hz), fun q h1 h2 => by
      rw [e1, hk q (Nat.lt_of_lt_of_le h1 hS.1) (fun z => h2 (by rw [ha q z]; exact hq1))]; exact hS.2.1 q h1 h2, fun q hq => by
      rcases List.mem_append.mp hq with h | h
      · exact hS.2.2 q h
      · rw [ha _ (hL q h)]; exact hq1⟩ hl T' rfl X'
  exact ⟨t2, go t2 a1, b1⟩
end GF2
end
