/-! numbers, sums and arrays as functions on Int: words for the state -/
def up_ (f : Int → Int) (i v : Int) : Int → Int := fun j => if j = i then v else f j
theorem up_s {f : Int → Int} {i v : Int} : up_ f i v i = v := by simp [up_]
theorem up_n {f : Int → Int} {i v j : Int} (h : j ≠ i) : up_ f i v j = f j := by simp [up_, h]
/-- f 0 + .. + f (n - 1) -/
def sm (f : Int → Int) : Nat → Int
  | 0 => 0
  | n + 1 => sm f n + f n
theorem sm_congr {f g : Int → Int} : ∀ (n : Nat), (∀ j : Int, 0 ≤ j → j < n → f j = g j) → sm f n = sm g n
  | 0, _ => rfl
  | n + 1, h => by
    simp only [sm]
    rw [sm_congr n (fun j h0 h1 => h j h0 (by omega)), h n (by omega) (by omega)]
theorem sm_le {f g : Int → Int} : ∀ (n : Nat), (∀ j : Int, 0 ≤ j → j < n → f j ≤ g j) → sm f n ≤ sm g n
  | 0, _ => Int.le_refl _
  | n + 1, h => by
    simp only [sm]
    have h1 := sm_le n (fun j h0 h1 => h j h0 (by omega))
    have h2 := h n (by omega) (by omega)
    omega
theorem sm_zero : ∀ (n : Nat), sm (fun _ => 0) n = 0
  | 0 => rfl
  | n + 1 => by simp only [sm]; rw [sm_zero n]; omega
theorem sm_nn {f : Int → Int} (n : Nat) (h : ∀ j : Int, 0 ≤ j → j < n → 0 ≤ f j) : 0 ≤ sm f n := by
  have := sm_le (f := fun _ => 0) (g := f) n h
  rw [sm_zero] at this
  exact this
theorem sm_add (f g : Int → Int) : ∀ (n : Nat), sm (fun j => f j + g j) n = sm f n + sm g n
  | 0 => rfl
  | n + 1 => by simp only [sm]; rw [sm_add f g n]; omega
theorem sm_sub (f g : Int → Int) : ∀ (n : Nat), sm (fun j => f j - g j) n = sm f n - sm g n
  | 0 => rfl
  | n + 1 => by simp only [sm]; rw [sm_sub f g n]; omega
/-- one place differs -/
theorem sm_one {f g : Int → Int} {i : Int} (h0 : 0 ≤ i) : ∀ (n : Nat), i < n → (∀ j : Int, 0 ≤ j → j < n → j ≠ i → g j = f j) → sm g n = sm f n - f i + g i
  | 0, h, _ => by omega
  | n + 1, h, hg => by
    simp only [sm]
    by_cases e : i = n
    · subst e
      rw [sm_congr n (f := g) (g := f) (fun j h0 h1 => hg j h0 (by omega) (by omega))]
      omega
    · have h1 := sm_one h0 n (by omega) (fun j a b c => hg j a (by omega) c)
      have h2 := hg n (by omega) (by omega) (fun q => e q.symm)
      omega
theorem sm_up {f : Int → Int} {i v : Int} (h0 : 0 ≤ i) (n : Nat) (h : i < n) : sm (up_ f i v) n = sm f n - f i + v := by
  have := sm_one (f := f) (g := up_ f i v) h0 n h (fun j _ _ hj => up_n hj)
  rw [up_s] at this
  exact this
/-- a sum of nothing negative has each part below it -/
theorem sm_part {f : Int → Int} (n : Nat) (h : ∀ j : Int, 0 ≤ j → j < n → 0 ≤ f j) {i : Int} (h0 : 0 ≤ i) (hi : i < n) : f i ≤ sm f n := by
  have h1 := sm_one (f := f) (g := fun j => if j = i then 0 else f j) h0 n hi (fun j _ _ hj => by simp [hj])
  have h2 := sm_nn (f := fun j => if j = i then 0 else f j) n (fun j a b => by
    by_cases e : j = i
    · simp [e]
    · simp [e]; exact h j a b)
  simp at h1
  omega
/-- a positive sum has a positive part -/
theorem sm_pos {f : Int → Int} (n : Nat) (h : 0 < sm f n) : ∃ j : Int, 0 ≤ j ∧ j < n ∧ 0 < f j := by
  refine Classical.byContradiction (fun hn => ?_)
  have := sm_le (f := f) (g := fun _ => 0) n (fun j a b => by
    refine Classical.byContradiction (fun q => hn ⟨j, a, b, by omega⟩))
  rw [sm_zero] at this
  omega
/-- how often v stands among f 0 .. f (n - 1) -/
def ct (f : Int → Int) (v : Int) (n : Nat) : Int := sm (fun j => if f j = v then 1 else 0) n
theorem ct_0 (f : Int → Int) (v : Int) : ct f v 0 = 0 := rfl
theorem ct_s (f : Int → Int) (v : Int) (n : Nat) : ct f v (n + 1) = ct f v n + (if f n = v then 1 else 0) := rfl
theorem ct_congr {f g : Int → Int} (v : Int) (n : Nat) (h : ∀ j : Int, 0 ≤ j → j < n → f j = g j) : ct f v n = ct g v n :=
  sm_congr n (fun j a b => by rw [h j a b])
theorem ct_up {f : Int → Int} {i x : Int} (v : Int) (h0 : 0 ≤ i) (n : Nat) (h : i < n) : ct (up_ f i x) v n = ct f v n - (if f i = v then 1 else 0) + (if x = v then 1 else 0) := by
  have := sm_one (f := fun j => if f j = v then 1 else 0) (g := fun j => if up_ f i x j = v then 1 else 0) h0 n h (fun j _ _ hj => by simp only [up_n hj])
  simp only [up_s] at this
  exact this
theorem ct_nn (f : Int → Int) (v : Int) (n : Nat) : 0 ≤ ct f v n := sm_nn n (fun j _ _ => by split <;> omega)
theorem ct_pos {f : Int → Int} {v : Int} {n : Nat} (h : 0 < ct f v n) : ∃ j : Int, 0 ≤ j ∧ j < n ∧ f j = v := by
  obtain ⟨j, a, b, c⟩ := sm_pos n h
  refine ⟨j, a, b, ?_⟩
  refine Classical.byContradiction (fun q => ?_)
  simp [q] at c
theorem ct_in {f : Int → Int} {n : Nat} {i : Int} (h0 : 0 ≤ i) (hi : i < n) : 0 < ct f (f i) n := by
  have := sm_part (f := fun j => if f j = f i then 1 else 0) n (fun j _ _ => by split <;> omega) h0 hi
  simp at this
  unfold ct
  omega
