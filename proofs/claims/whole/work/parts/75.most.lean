/-! the reference: most -/
abbrev ouN (S : Nat → Int → Int) (f : Int → Bool) : Int := ou (S 1 0).toNat (S 2) (S 3) (S 6) f
abbrev diN (S : Nat → Int → Int) (u v : Int) : Int := di (S 1 0).toNat (S 2) (S 3) (S 6) u v
abbrev cloN (S : Nat → Int → Int) (u v : Int) (f g : Int → Bool) : Prop := clo (S 1 0).toNat (S 2) (S 3) (S 6) u v f g
def MI0 (S : Nat → Int → Int) (u v : Int) (i : Nat) (best : Int) : Prop := (0 ≤ best ∧ best ≤ 20) ∧ (∀ s : Nat, s < i → fb s u = true → fb s v = false → best ≤ ouN S (fb s)) ∧ (best = 20 ∨ ∃ s : Nat, fb s u = true ∧ fb s v = false ∧ ouN S (fb s) ≤ best)
def MI1 (S : Nat → Int → Int) (u v : Int) (i : Nat) (best : Int) : Prop := (0 ≤ best ∧ best ≤ 20) ∧ (∀ s : Nat, s < i → fb s u = false → fb s v = false → (∃ g, cloN S u v (fb s) g) → best ≤ diN S u v + mn 8 (fb s)) ∧ (best = 20 ∨ ∃ (s : Nat) (g : Int → Bool), fb s u = false ∧ fb s v = false ∧ cloN S u v (fb s) g ∧ diN S u v + mn 8 (fb s) ≤ best)
theorem MI0_skip {S : Nat → Int → Int} {u v : Int} {i : Nat} {best : Int} (h : MI0 S u v i best) (hs : fb i u = true → fb i v = false → best ≤ ouN S (fb i)) : MI0 S u v (i + 1) best := ⟨h.1, fun s hs2 h1 h2 => by
  by_cases e : s = i
  · subst e; exact hs h1 h2
  · exact h.2.1 s (by omega) h1 h2, h.2.2⟩
theorem MI0_new {S : Nat → Int → Int} {u v : Int} {i : Nat} {best : Int} (h : MI0 S u v i best) (h1 : fb i u = true) (h2 : fb i v = false) (hl : ouN S (fb i) ≤ best) : MI0 S u v (i + 1) (ouN S (fb i)) := ⟨⟨(sm1_le _).1, by have := h.1; omega⟩, fun s hs2 g1 g2 => by
  by_cases e : s = i
  · subst e; exact Int.le_refl _
  · exact Int.le_trans hl (h.2.1 s (by omega) g1 g2), Or.inr ⟨i, h1, h2, Int.le_refl _⟩⟩
theorem MI1_skip {S : Nat → Int → Int} {u v : Int} {i : Nat} {best : Int} (h : MI1 S u v i best) (hs : fb i u = false → fb i v = false → (∃ g, cloN S u v (fb i) g) → best ≤ diN S u v + mn 8 (fb i)) : MI1 S u v (i + 1) best := ⟨h.1, fun s hs2 h1 h2 h3 => by
  by_cases e : s = i
  · subst e; exact hs h1 h2 h3
  · exact h.2.1 s (by omega) h1 h2 h3, h.2.2⟩
theorem dm_nn {S : Nat → Int → Int} {u v : Int} {f : Int → Bool} {n : Nat} : 0 ≤ diN S u v + mn n f := by
  have h1 : 0 ≤ diN S u v := (sm1_le _).1
  have h2 : 0 ≤ mn n f := (sm1_le _).1
  omega
theorem MI1_new {S : Nat → Int → Int} {u v : Int} {i : Nat} {best : Int} (h : MI1 S u v i best) (h1 : fb i u = false) (h2 : fb i v = false) (h3 : ∃ g, cloN S u v (fb i) g) (hl : diN S u v + mn 8 (fb i) ≤ best) : MI1 S u v (i + 1) (diN S u v + mn 8 (fb i)) := ⟨⟨dm_nn, by have := h.1; omega⟩, fun s hs2 g1 g2 g3 => by
  by_cases e : s = i
  · subst e; exact Int.le_refl _
  · exact Int.le_trans hl (h.2.1 s (by omega) g1 g2 g3), Or.inr ⟨i, h3.choose, h1, h2, h3.choose_spec, Int.le_refl _⟩⟩
/-- the set of f, below N -/
def sb (f : Int → Bool) (N : Nat) : Nat := bs ((dk N).filter f)
theorem sb_in {f : Int → Bool} {N : Nat} {x : Int} (h0 : 0 ≤ x) : fb (sb f N) x = true ↔ (x < N ∧ f x = true) := by
  unfold fb sb
  rw [bs_tb _ _ (fun k hk => (dk_mem.mp (List.mem_filter.mp hk).1).1), List.mem_filter, dk_mem, show ((x.toNat : Nat) : Int) = x by omega]
  exact ⟨fun q => ⟨q.1.2, q.2⟩, fun q => ⟨⟨h0, q.1⟩, q.2⟩⟩
theorem sb_eq {f : Int → Bool} {N : Nat} {x : Int} (h0 : 0 ≤ x) (h1 : x < N) : fb (sb f N) x = f x := by
  have h := sb_in (f := f) (N := N) h0
  cases hf : f x with
  | true => exact h.mpr ⟨h1, hf⟩
  | false =>
    cases hb : fb (sb f N) x with
    | false => rfl
    | true => have := (h.mp hb).2; rw [hf] at this; cases this
theorem sb_lt {f : Int → Bool} {N : Nat} : sb f N < 2 ^ N := bs_lt _ (fun k hk => dk_mem.mp (List.mem_filter.mp hk).1)
theorem sm_ext {f : Int → Int} {N : Nat} (h : ∀ j : Int, N ≤ j → f j = 0) : ∀ d : Nat, sm f (N + d) = sm f N
  | 0 => rfl
  | d + 1 => by rw [← Nat.add_assoc]; simp only [sm]; rw [sm_ext h d, h _ (by omega)]; omega
theorem sm_grow {f : Int → Int} {N : Nat} (h : ∀ j : Int, 0 ≤ j → 0 ≤ f j) : ∀ d : Nat, sm f N ≤ sm f (N + d)
  | 0 => Int.le_refl _
  | d + 1 => by rw [← Nat.add_assoc]; simp only [sm]; have := sm_grow (N := N) h d; have := h ((N + d : Nat) : Int) (by omega); omega
theorem MI0_end {S : Nat → Int → Int} {u v : Int} {M : Nat} {best : Int} (hG : GJ S) (hu : 0 ≤ u ∧ u < S 0 0) (hv : 0 ≤ v ∧ v < S 0 0) (hM : M = 2 ^ (S 0 0).toNat) (h : MI0 S u v M best) : cuL S u v 0 best ∧ (best = 20 ∨ cuG S u v 0 best) := by
  obtain ⟨h0, h1, h2⟩ := h
  refine ⟨⟨fun _ f fu fv => ?_, fun q => by cases q⟩, ?_⟩
  · have := h1 (sb f (S 0 0).toNat) (by rw [hM]; exact sb_lt) (by rw [sb_eq hu.1 (by omega)]; exact fu) (by rw [sb_eq hv.1 (by omega)]; exact fv)
    refine Int.le_trans this (Int.le_of_eq ?_)
    refine sm_congr _ (fun k k0 k1 => ?_)
    have q1 := hG.2.2.2.2.1 k
    have q2 := hG.2.2.2.2.2 k k0 k1
    show (if _ then _ else _) = _
    rw [sb_eq q1.1 q2.1, sb_eq q1.2.2.1 q2.2.1]
  · rcases h2 with h2 | ⟨s, s1, s2, s3⟩
    · exact Or.inl h2
    · exact Or.inr ⟨fun _ => ⟨fb s, s1, s2, s3⟩, fun q => by cases q⟩
theorem MI1_end {S : Nat → Int → Int} {u v : Int} {M : Nat} {best : Int} (hG : GJ S) (hu : 0 ≤ u ∧ u < S 0 0) (hv : 0 ≤ v ∧ v < S 0 0) (hM : M = 2 ^ (S 0 0).toNat) (h : MI1 S u v M best) : cuL S u v 1 best ∧ (best = 20 ∨ cuG S u v 1 best) := by
  obtain ⟨h0, h1, h2⟩ := h
  have hn8 := hG.1
  refine ⟨⟨fun q => absurd rfl q, fun _ f g hc fv => ?_⟩, ?_⟩
  · have := h1 (sb (fun x => f x && !(decide (x = u))) (S 0 0).toNat) (by rw [hM]; exact sb_lt) (by rw [sb_eq hu.1 (by omega)]; simp) (by rw [sb_eq hv.1 (by omega)]; simp [fv]) ⟨g, hc.1, hc.2.1, fun k k0 k1 c1 c2 c3 c4 => by
      have q1 := hG.2.2.2.2.1 k
      have q2 := hG.2.2.2.2.2 k k0 k1
      rw [sb_eq q1.2.2.1 q2.2.1] at c3
      by_cases e : S 3 k = u
      · rw [e]; exact hc.1
      · exact hc.2.2 k k0 k1 c1 c2 (by simpa [e] using c3) c4⟩
    refine Int.le_trans this ?_
    have e1 : mn 8 (fb (sb (fun x => f x && !(decide (x = u))) (S 0 0).toNat)) = mn (S 0 0).toNat (fb (sb (fun x => f x && !(decide (x = u))) (S 0 0).toNat)) := by
      have e2 := sm_ext (f := fun w => if fb (sb (fun x => f x && !(decide (x = u))) (S 0 0).toNat) w = true then 1 else 0) (N := (S 0 0).toNat) (fun j hj => by
        have : ¬ (fb (sb (fun x => f x && !(decide (x = u))) (S 0 0).toNat) j = true) := fun q => by
          have := ((sb_in (by omega)).mp q).1
          omega
        show (if _ then _ else _) = _
        rw [if_neg this]) (8 - (S 0 0).toNat)
      rw [show (S 0 0).toNat + (8 - (S 0 0).toNat) = 8 by omega] at e2
      exact e2
    have e3 : mn (S 0 0).toNat (fb (sb (fun x => f x && !(decide (x = u))) (S 0 0).toNat)) ≤ mn (S 0 0).toNat f := by
      refine sm_le _ (fun w w0 w1 => ?_)
      show (if _ then _ else _) ≤ (if _ then _ else _)
      rw [sb_eq w0 w1]
      cases f w <;> simp
      split <;> omega
    rw [e1]
    show diN S u v + _ ≤ diN S u v + _
    omega
  · rcases h2 with h2 | ⟨s, g, s1, s2, s3, s4⟩
    · exact Or.inl h2
    · refine Or.inr ⟨fun q => absurd rfl q, fun _ => ⟨fb s, g, s1, s2, s3, ?_⟩⟩
      have e2 := sm_grow (f := fun w => if fb s w = true then 1 else 0) (N := (S 0 0).toNat) (fun j _ => show 0 ≤ (if fb s j = true then (1 : Int) else 0) by split <;> omega) (8 - (S 0 0).toNat)
      rw [show (S 0 0).toNat + (8 - (S 0 0).toNat) = 8 by omega] at e2
      have e3 : mn (S 0 0).toNat (fb s) ≤ mn 8 (fb s) := e2
      show diN S u v + mn (S 0 0).toNat (fb s) ≤ best
      omega

set_option maxRecDepth 100000 in
set_option maxHeartbeats 4000000 in
theorem lo_M_most0 {l : Launch} {D : va_G} {a : Nat → Nat} {ki kz kl kq : ClassId} {p : Program} {e : Env} {s : State} {m : MethodId} {args : Array Value} {below : List Frame} {meth : Method} {c : Code} {S : Nat → Int → Int} {u v : Int} {M : Nat} (hG : GJ S) (h2 : twoS S u v) (hM : M = 2 ^ (S 0 0).toNat) (hM8 : M ≤ 256) (C : CX p s m args c b_M_most 7 "NextPathsModel" TT D cls (tyz ki kz kl kq)) (hr : meth.sig.returnType = (some .int)) (hk : meth.locks = false) : ∀ (j i : Nat) (t : Int), i ≤ M → M ≤ i + j → MI0 S u v i t → GG p l e rm_M_most s m args below meth c D cls (adr (wY a ki kz kl kq S)) 7 0 0 (MQ below (QcW D cls (wY a ki kz kl kq) S (pI fun r S' => (¬ (twoS S u v ∧ (0 ≤ (0 : Int) ∧ (0 : Int) ≤ 1)) ∧ r = -2 ∧ S' = S) ∨ ((twoS S u v ∧ (0 ≤ (0 : Int) ∧ (0 : Int) ≤ 1)) ∧ S' = S ∧ (0 ≤ r ∧ r ≤ 20) ∧ cuL S u v 0 r ∧ (r = 20 ∨ cuG S u v 0 r)))) args s 0 0 (adr (wY a ki kz kl kq S))) (wY a ki kz kl kq) S [(6, .int (iI (i : Int))), (4, .int (iI t)), (5, .int (iI (diN S u v))), (0, .ref (a 0)), (1, .int (iI u)), (2, .int (iI v)), (3, .int (iI 0))] 91 [] := by
  intro j
  induction j with
  | zero =>
    intro i t hi hk0 hI
    have hn8 := hG.1
    have hn20 := hG.2.1
    have htb := hI.1
    have hdb : 0 ≤ diN S u v ∧ diN S u v ≤ 20 := by have := sm1_le (c := fun k => S 6 k = 0 ∧ S 2 k = u ∧ S 3 k = v) (S 1 0).toNat; unfold diN di; omega
    refine g_iload C d_M_most_91 rfl rfl ?_
    refine g_iconst (z := 1) C d_M_most_93 rfl rfl ?_
    refine g_aload_n C d_M_most_94 rfl rfl ?_
    refine g_get C 0 0 i_M wY_0 rfl (by decide) k_M_69 rfl rfl d_M_most_95 rfl ?_
    refine g_ishl (z := (M : Int)) C d_M_most_98 (by rw [hM]; exact ishl_ok (by omega) (by omega)) rfl ?_
    refine g_icmp_ge (tgt := 217) C d_M_most_99 (by decide) rfl (by omega) (by omega) (fun h99 => ?_) (fun h99 => ?_)
    · refine g_iload C d_M_most_217 rfl rfl ?_
      refine g_iret C hr hk d_M_most_219 ⟨_, rfl, ?_⟩
      have hiM : i = M := by omega
      subst hiM
      exact Or.inr ⟨by omega, rfl, htb, MI0_end hG (by omega) (by omega) hM hI⟩
    · exact absurd h99 (by omega)
  | succ j ih =>
    intro i t hi hk0 hI
    have hn8 := hG.1
    have hn20 := hG.2.1
    have htb := hI.1
    have hdb : 0 ≤ diN S u v ∧ diN S u v ≤ 20 := by have := sm1_le (c := fun k => S 6 k = 0 ∧ S 2 k = u ∧ S 3 k = v) (S 1 0).toNat; unfold diN di; omega
    refine g_iload C d_M_most_91 rfl rfl ?_
    refine g_iconst (z := 1) C d_M_most_93 rfl rfl ?_
    refine g_aload_n C d_M_most_94 rfl rfl ?_
    refine g_get C 0 0 i_M wY_0 rfl (by decide) k_M_69 rfl rfl d_M_most_95 rfl ?_
    refine g_ishl (z := (M : Int)) C d_M_most_98 (by rw [hM]; exact ishl_ok (by omega) (by omega)) rfl ?_
    refine g_icmp_ge (tgt := 217) C d_M_most_99 (by decide) rfl (by omega) (by omega) (fun h99 => ?_) (fun h99 => ?_)
    · refine g_iload C d_M_most_217 rfl rfl ?_
      refine g_iret C hr hk d_M_most_219 ⟨_, rfl, ?_⟩
      have hiM : i = M := by omega
      subst hiM
      exact Or.inr ⟨by omega, rfl, htb, MI0_end hG (by omega) (by omega) hM hI⟩
    · refine g_iload_n C d_M_most_102 rfl rfl ?_
      refine g_if_ne (tgt := 149) C d_M_most_103 (by decide) rfl (by omega) (fun h103 => ?_) (fun h103 => ?_)
      · exact absurd rfl h103
      · refine g_iload C d_M_most_106 rfl rfl ?_
        refine g_iload_n C d_M_most_108 rfl rfl ?_
        refine g_ishr (z := ((i / 2 ^ u.toNat : Nat) : Int)) C d_M_most_109 (ishr_ok (by omega) (by omega) (by omega)) rfl ?_
        refine g_iconst (z := 1) C d_M_most_110 rfl rfl ?_
        refine g_iand (z := ((i / 2 ^ u.toNat % 2 : Nat) : Int)) C d_M_most_111 iand1_ok rfl ?_
        refine g_iconst (z := 1) C d_M_most_112 rfl rfl ?_
        refine g_icmp_ne (tgt := 149) C d_M_most_113 (by decide) rfl fb_r (by omega) (fun h113 => ?_) (fun h113 => ?_)
        · refine g_iload_n C d_M_most_149 rfl rfl ?_
          refine g_iconst (z := 1) C d_M_most_150 rfl rfl ?_
          refine g_icmp_ne (tgt := 211) C d_M_most_151 (by decide) rfl (by omega) (by omega) (fun h151 => ?_) (fun h151 => ?_)
          · obtain ⟨i2, e_i2⟩ : ∃ z : Int, z = (i : Int) + 1 := ⟨_, rfl⟩
            refine g_iinc (q := 0) (z := i2) (lv' := [(6, .int (iI i2)), (4, .int (iI t)), (5, .int (iI (diN S u v))), (0, .ref (a 0)), (1, .int (iI u)), (2, .int (iI v)), (3, .int (iI 0))]) C d_M_most_211 rfl e_i2.symm (by decide) rfl rfl ?_
            refine g_goto (tgt := 91) C d_M_most_214 (by decide) ?_
            first
              | (have hn : MI0 S u v (i + 1) t := MI0_skip hI (fun q1 q2 => absurd (fb_1.mpr q1) h113)
                 refine GG.lvs (lv' := [(6, .int (iI ((i + 1 : Nat) : Int))), (4, .int (iI t)), (5, .int (iI (diN S u v))), (0, .ref (a 0)), (1, .int (iI u)), (2, .int (iI v)), (3, .int (iI 0))]) (by rw [show i2 = ((i + 1 : Nat) : Int) by omega]; simp [lk]) ?_
                 exact ih (i + 1) t (by omega) (by omega) hn)
              | (have hn : MI0 S u v (i + 1) t := MI0_skip hI (fun q1 q2 => absurd (fb_0.mpr q2) h122)
                 refine GG.lvs (lv' := [(6, .int (iI ((i + 1 : Nat) : Int))), (4, .int (iI t)), (5, .int (iI (diN S u v))), (0, .ref (a 0)), (1, .int (iI u)), (2, .int (iI v)), (3, .int (iI 0))]) (by rw [show i2 = ((i + 1 : Nat) : Int) by omega]; simp [lk]) ?_
                 exact ih (i + 1) t (by omega) (by omega) hn)
              | (have h19 : r4 < t := h133
                 have hn : MI0 S u v (i + 1) (ouN S (fb i)) := MI0_new hI (fb_1.mp h113) (fb_0.mp h122) (by rw [hp4] at h133; exact Int.le_of_lt h133)
                 refine GG.lvs (lv' := [(6, .int (iI ((i + 1 : Nat) : Int))), (4, .int (iI (ouN S (fb i)))), (5, .int (iI (diN S u v))), (0, .ref (a 0)), (1, .int (iI u)), (2, .int (iI v)), (3, .int (iI 0))]) (by rw [show i2 = ((i + 1 : Nat) : Int) by omega, e_b2, hp5]; simp [lk]) ?_
                 exact ih (i + 1) _ (by omega) (by omega) hn)
              | (have hn : MI0 S u v (i + 1) t := MI0_skip hI (fun q1 q2 => by rw [hp4] at h133; exact h133)
                 refine GG.lvs (lv' := [(6, .int (iI ((i + 1 : Nat) : Int))), (4, .int (iI t)), (5, .int (iI (diN S u v))), (0, .ref (a 0)), (1, .int (iI u)), (2, .int (iI v)), (3, .int (iI 0))]) (by rw [show i2 = ((i + 1 : Nat) : Int) by omega, e_b2]; simp [lk]) ?_
                 exact ih (i + 1) t (by omega) (by omega) hn)
          · exact absurd h151 (by decide)
        · refine g_iload C d_M_most_116 rfl rfl ?_
          refine g_iload_n C d_M_most_118 rfl rfl ?_
          refine g_ishr (z := ((i / 2 ^ v.toNat : Nat) : Int)) C d_M_most_119 (ishr_ok (by omega) (by omega) (by omega)) rfl ?_
          refine g_iconst (z := 1) C d_M_most_120 rfl rfl ?_
          refine g_iand (z := ((i / 2 ^ v.toNat % 2 : Nat) : Int)) C d_M_most_121 iand1_ok rfl ?_
          refine g_if_ne (tgt := 149) C d_M_most_122 (by decide) rfl fb_r (fun h122 => ?_) (fun h122 => ?_)
          · refine g_iload_n C d_M_most_149 rfl rfl ?_
            refine g_iconst (z := 1) C d_M_most_150 rfl rfl ?_
            refine g_icmp_ne (tgt := 211) C d_M_most_151 (by decide) rfl (by omega) (by omega) (fun h151 => ?_) (fun h151 => ?_)
            · obtain ⟨i2, e_i2⟩ : ∃ z : Int, z = (i : Int) + 1 := ⟨_, rfl⟩
              refine g_iinc (q := 0) (z := i2) (lv' := [(6, .int (iI i2)), (4, .int (iI t)), (5, .int (iI (diN S u v))), (0, .ref (a 0)), (1, .int (iI u)), (2, .int (iI v)), (3, .int (iI 0))]) C d_M_most_211 rfl e_i2.symm (by decide) rfl rfl ?_
              refine g_goto (tgt := 91) C d_M_most_214 (by decide) ?_
              first
                | (have hn : MI0 S u v (i + 1) t := MI0_skip hI (fun q1 q2 => absurd (fb_1.mpr q1) h113)
                   refine GG.lvs (lv' := [(6, .int (iI ((i + 1 : Nat) : Int))), (4, .int (iI t)), (5, .int (iI (diN S u v))), (0, .ref (a 0)), (1, .int (iI u)), (2, .int (iI v)), (3, .int (iI 0))]) (by rw [show i2 = ((i + 1 : Nat) : Int) by omega]; simp [lk]) ?_
                   exact ih (i + 1) t (by omega) (by omega) hn)
                | (have hn : MI0 S u v (i + 1) t := MI0_skip hI (fun q1 q2 => absurd (fb_0.mpr q2) h122)
                   refine GG.lvs (lv' := [(6, .int (iI ((i + 1 : Nat) : Int))), (4, .int (iI t)), (5, .int (iI (diN S u v))), (0, .ref (a 0)), (1, .int (iI u)), (2, .int (iI v)), (3, .int (iI 0))]) (by rw [show i2 = ((i + 1 : Nat) : Int) by omega]; simp [lk]) ?_
                   exact ih (i + 1) t (by omega) (by omega) hn)
                | (have h19 : r4 < t := h133
                   have hn : MI0 S u v (i + 1) (ouN S (fb i)) := MI0_new hI (fb_1.mp h113) (fb_0.mp h122) (by rw [hp4] at h133; exact Int.le_of_lt h133)
                   refine GG.lvs (lv' := [(6, .int (iI ((i + 1 : Nat) : Int))), (4, .int (iI (ouN S (fb i)))), (5, .int (iI (diN S u v))), (0, .ref (a 0)), (1, .int (iI u)), (2, .int (iI v)), (3, .int (iI 0))]) (by rw [show i2 = ((i + 1 : Nat) : Int) by omega, e_b2, hp5]; simp [lk]) ?_
                   exact ih (i + 1) _ (by omega) (by omega) hn)
                | (have hn : MI0 S u v (i + 1) t := MI0_skip hI (fun q1 q2 => by rw [hp4] at h133; exact h133)
                   refine GG.lvs (lv' := [(6, .int (iI ((i + 1 : Nat) : Int))), (4, .int (iI t)), (5, .int (iI (diN S u v))), (0, .ref (a 0)), (1, .int (iI u)), (2, .int (iI v)), (3, .int (iI 0))]) (by rw [show i2 = ((i + 1 : Nat) : Int) by omega, e_b2]; simp [lk]) ?_
                   exact ih (i + 1) t (by omega) (by omega) hn)
            · exact absurd h151 (by decide)
          · refine g_aload_n C d_M_most_125 rfl rfl ?_
            refine g_iload C d_M_most_126 rfl rfl ?_
            refine g_runI (wY_fix a ki kz kl kq) rfl (rn_V C (m_M_out hG (by omega)) 0 1 wY_0 rfl rfl kc_M_out k_M_134 ki_M_out kx_M_out kn_M hy_M_out ⟨rfl, rfl⟩ ⟨by decide, by decide⟩ ⟨Nat.le_refl _, Nat.le_refl _⟩ rfl rfl (Nat.le_of_ble_eq_true rfl) d_M_most_128) (fun r4 S4 hp4 => ?_)
            obtain ⟨hS4, hp4⟩ := hp4
            refine GG.at hS4 ?_
            have hb4 : 0 ≤ r4 ∧ r4 ≤ 20 := by have := sm1_le (c := fun k => S 6 k = 0 ∧ fb i (S 2 k) = true ∧ fb i (S 3 k) = false) (S 1 0).toNat; rw [hp4]; unfold ou; omega
            refine g_iload C d_M_most_131 rfl rfl ?_
            refine g_icmp_ge (tgt := 145) C d_M_most_133 (by decide) rfl (by omega) (by omega) (fun h133 => ?_) (fun h133 => ?_)
            · refine g_iload C d_M_most_145 rfl rfl ?_
              refine g_nm (fun b2 e_b2 => ?_)
              refine g_istore (lv' := [(4, .int (iI b2)), (6, .int (iI (i : Int))), (5, .int (iI (diN S u v))), (0, .ref (a 0)), (1, .int (iI u)), (2, .int (iI v)), (3, .int (iI 0))]) C d_M_most_147 (by decide) rfl rfl ?_
              refine g_iload_n C d_M_most_149 rfl rfl ?_
              refine g_iconst (z := 1) C d_M_most_150 rfl rfl ?_
              refine g_icmp_ne (tgt := 211) C d_M_most_151 (by decide) rfl (by omega) (by omega) (fun h151 => ?_) (fun h151 => ?_)
              · obtain ⟨i2, e_i2⟩ : ∃ z : Int, z = (i : Int) + 1 := ⟨_, rfl⟩
                refine g_iinc (q := 1) (z := i2) (lv' := [(6, .int (iI i2)), (4, .int (iI b2)), (5, .int (iI (diN S u v))), (0, .ref (a 0)), (1, .int (iI u)), (2, .int (iI v)), (3, .int (iI 0))]) C d_M_most_211 rfl e_i2.symm (by decide) rfl rfl ?_
                refine g_goto (tgt := 91) C d_M_most_214 (by decide) ?_
                first
                  | (have hn : MI0 S u v (i + 1) t := MI0_skip hI (fun q1 q2 => absurd (fb_1.mpr q1) h113)
                     refine GG.lvs (lv' := [(6, .int (iI ((i + 1 : Nat) : Int))), (4, .int (iI t)), (5, .int (iI (diN S u v))), (0, .ref (a 0)), (1, .int (iI u)), (2, .int (iI v)), (3, .int (iI 0))]) (by rw [show i2 = ((i + 1 : Nat) : Int) by omega]; simp [lk]) ?_
                     exact ih (i + 1) t (by omega) (by omega) hn)
                  | (have hn : MI0 S u v (i + 1) t := MI0_skip hI (fun q1 q2 => absurd (fb_0.mpr q2) h122)
                     refine GG.lvs (lv' := [(6, .int (iI ((i + 1 : Nat) : Int))), (4, .int (iI t)), (5, .int (iI (diN S u v))), (0, .ref (a 0)), (1, .int (iI u)), (2, .int (iI v)), (3, .int (iI 0))]) (by rw [show i2 = ((i + 1 : Nat) : Int) by omega]; simp [lk]) ?_
                     exact ih (i + 1) t (by omega) (by omega) hn)
                  | (have h19 : r4 < t := h133
                     have hn : MI0 S u v (i + 1) (ouN S (fb i)) := MI0_new hI (fb_1.mp h113) (fb_0.mp h122) (by rw [hp4] at h133; exact Int.le_of_lt h133)
                     refine GG.lvs (lv' := [(6, .int (iI ((i + 1 : Nat) : Int))), (4, .int (iI (ouN S (fb i)))), (5, .int (iI (diN S u v))), (0, .ref (a 0)), (1, .int (iI u)), (2, .int (iI v)), (3, .int (iI 0))]) (by rw [show i2 = ((i + 1 : Nat) : Int) by omega, e_b2, hp5]; simp [lk]) ?_
                     exact ih (i + 1) _ (by omega) (by omega) hn)
                  | (have hn : MI0 S u v (i + 1) t := MI0_skip hI (fun q1 q2 => by rw [hp4] at h133; exact h133)
                     refine GG.lvs (lv' := [(6, .int (iI ((i + 1 : Nat) : Int))), (4, .int (iI t)), (5, .int (iI (diN S u v))), (0, .ref (a 0)), (1, .int (iI u)), (2, .int (iI v)), (3, .int (iI 0))]) (by rw [show i2 = ((i + 1 : Nat) : Int) by omega, e_b2]; simp [lk]) ?_
                     exact ih (i + 1) t (by omega) (by omega) hn)
              · exact absurd h151 (by decide)
            · refine g_aload_n C d_M_most_136 rfl rfl ?_
              refine g_iload C d_M_most_137 rfl rfl ?_
              refine g_runI (wY_fix a ki kz kl kq) rfl (rn_V C (m_M_out hG (by omega)) 0 1 wY_0 rfl rfl kc_M_out k_M_134 ki_M_out kx_M_out kn_M hy_M_out ⟨rfl, rfl⟩ ⟨by decide, by decide⟩ ⟨Nat.le_refl _, Nat.le_refl _⟩ rfl rfl (Nat.le_of_ble_eq_true rfl) d_M_most_139) (fun r5 S5 hp5 => ?_)
              obtain ⟨hS5, hp5⟩ := hp5
              refine GG.at hS5 ?_
              have hb5 : 0 ≤ r5 ∧ r5 ≤ 20 := by have := sm1_le (c := fun k => S 6 k = 0 ∧ fb i (S 2 k) = true ∧ fb i (S 3 k) = false) (S 1 0).toNat; rw [hp5]; unfold ou; omega
              refine g_goto (tgt := 147) C d_M_most_142 (by decide) ?_
              refine g_nm (fun b2 e_b2 => ?_)
              refine g_istore (lv' := [(4, .int (iI b2)), (6, .int (iI (i : Int))), (5, .int (iI (diN S u v))), (0, .ref (a 0)), (1, .int (iI u)), (2, .int (iI v)), (3, .int (iI 0))]) C d_M_most_147 (by decide) rfl rfl ?_
              refine g_iload_n C d_M_most_149 rfl rfl ?_
              refine g_iconst (z := 1) C d_M_most_150 rfl rfl ?_
              refine g_icmp_ne (tgt := 211) C d_M_most_151 (by decide) rfl (by omega) (by omega) (fun h151 => ?_) (fun h151 => ?_)
              · obtain ⟨i2, e_i2⟩ : ∃ z : Int, z = (i : Int) + 1 := ⟨_, rfl⟩
                refine g_iinc (q := 1) (z := i2) (lv' := [(6, .int (iI i2)), (4, .int (iI b2)), (5, .int (iI (diN S u v))), (0, .ref (a 0)), (1, .int (iI u)), (2, .int (iI v)), (3, .int (iI 0))]) C d_M_most_211 rfl e_i2.symm (by decide) rfl rfl ?_
                refine g_goto (tgt := 91) C d_M_most_214 (by decide) ?_
                first
                  | (have hn : MI0 S u v (i + 1) t := MI0_skip hI (fun q1 q2 => absurd (fb_1.mpr q1) h113)
                     refine GG.lvs (lv' := [(6, .int (iI ((i + 1 : Nat) : Int))), (4, .int (iI t)), (5, .int (iI (diN S u v))), (0, .ref (a 0)), (1, .int (iI u)), (2, .int (iI v)), (3, .int (iI 0))]) (by rw [show i2 = ((i + 1 : Nat) : Int) by omega]; simp [lk]) ?_
                     exact ih (i + 1) t (by omega) (by omega) hn)
                  | (have hn : MI0 S u v (i + 1) t := MI0_skip hI (fun q1 q2 => absurd (fb_0.mpr q2) h122)
                     refine GG.lvs (lv' := [(6, .int (iI ((i + 1 : Nat) : Int))), (4, .int (iI t)), (5, .int (iI (diN S u v))), (0, .ref (a 0)), (1, .int (iI u)), (2, .int (iI v)), (3, .int (iI 0))]) (by rw [show i2 = ((i + 1 : Nat) : Int) by omega]; simp [lk]) ?_
                     exact ih (i + 1) t (by omega) (by omega) hn)
                  | (have h19 : r4 < t := h133
                     have hn : MI0 S u v (i + 1) (ouN S (fb i)) := MI0_new hI (fb_1.mp h113) (fb_0.mp h122) (by rw [hp4] at h133; exact Int.le_of_lt h133)
                     refine GG.lvs (lv' := [(6, .int (iI ((i + 1 : Nat) : Int))), (4, .int (iI (ouN S (fb i)))), (5, .int (iI (diN S u v))), (0, .ref (a 0)), (1, .int (iI u)), (2, .int (iI v)), (3, .int (iI 0))]) (by rw [show i2 = ((i + 1 : Nat) : Int) by omega, e_b2, hp5]; simp [lk]) ?_
                     exact ih (i + 1) _ (by omega) (by omega) hn)
                  | (have hn : MI0 S u v (i + 1) t := MI0_skip hI (fun q1 q2 => by rw [hp4] at h133; exact h133)
                     refine GG.lvs (lv' := [(6, .int (iI ((i + 1 : Nat) : Int))), (4, .int (iI t)), (5, .int (iI (diN S u v))), (0, .ref (a 0)), (1, .int (iI u)), (2, .int (iI v)), (3, .int (iI 0))]) (by rw [show i2 = ((i + 1 : Nat) : Int) by omega, e_b2]; simp [lk]) ?_
                     exact ih (i + 1) t (by omega) (by omega) hn)
              · exact absurd h151 (by decide)

set_option maxRecDepth 100000 in
set_option maxHeartbeats 4000000 in
theorem lo_M_most1 {l : Launch} {D : va_G} {a : Nat → Nat} {ki kz kl kq : ClassId} {p : Program} {e : Env} {s : State} {m : MethodId} {args : Array Value} {below : List Frame} {meth : Method} {c : Code} {S : Nat → Int → Int} {u v : Int} {M : Nat} (hG : GJ S) (h2 : twoS S u v) (hM : M = 2 ^ (S 0 0).toNat) (hM8 : M ≤ 256) (C : CX p s m args c b_M_most 7 "NextPathsModel" TT D cls (tyz ki kz kl kq)) (hr : meth.sig.returnType = (some .int)) (hk : meth.locks = false) : ∀ (j i : Nat) (t : Int), i ≤ M → M ≤ i + j → MI1 S u v i t → GG p l e rm_M_most s m args below meth c D cls (adr (wY a ki kz kl kq S)) 7 0 0 (MQ below (QcW D cls (wY a ki kz kl kq) S (pI fun r S' => (¬ (twoS S u v ∧ (0 ≤ (1 : Int) ∧ (1 : Int) ≤ 1)) ∧ r = -2 ∧ S' = S) ∨ ((twoS S u v ∧ (0 ≤ (1 : Int) ∧ (1 : Int) ≤ 1)) ∧ S' = S ∧ (0 ≤ r ∧ r ≤ 20) ∧ cuL S u v 1 r ∧ (r = 20 ∨ cuG S u v 1 r)))) args s 0 0 (adr (wY a ki kz kl kq S))) (wY a ki kz kl kq) S [(6, .int (iI (i : Int))), (4, .int (iI t)), (5, .int (iI (diN S u v))), (0, .ref (a 0)), (1, .int (iI u)), (2, .int (iI v)), (3, .int (iI 1))] 91 [] := by
  intro j
  induction j with
  | zero =>
    intro i t hi hk0 hI
    have hn8 := hG.1
    have hn20 := hG.2.1
    have htb := hI.1
    have hdb : 0 ≤ diN S u v ∧ diN S u v ≤ 20 := by have := sm1_le (c := fun k => S 6 k = 0 ∧ S 2 k = u ∧ S 3 k = v) (S 1 0).toNat; unfold diN di; omega
    refine g_iload C d_M_most_91 rfl rfl ?_
    refine g_iconst (z := 1) C d_M_most_93 rfl rfl ?_
    refine g_aload_n C d_M_most_94 rfl rfl ?_
    refine g_get C 0 0 i_M wY_0 rfl (by decide) k_M_69 rfl rfl d_M_most_95 rfl ?_
    refine g_ishl (z := (M : Int)) C d_M_most_98 (by rw [hM]; exact ishl_ok (by omega) (by omega)) rfl ?_
    refine g_icmp_ge (tgt := 217) C d_M_most_99 (by decide) rfl (by omega) (by omega) (fun h99 => ?_) (fun h99 => ?_)
    · refine g_iload C d_M_most_217 rfl rfl ?_
      refine g_iret C hr hk d_M_most_219 ⟨_, rfl, ?_⟩
      have hiM : i = M := by omega
      subst hiM
      exact Or.inr ⟨by omega, rfl, htb, MI1_end hG (by omega) (by omega) hM hI⟩
    · exact absurd h99 (by omega)
  | succ j ih =>
    intro i t hi hk0 hI
    have hn8 := hG.1
    have hn20 := hG.2.1
    have htb := hI.1
    have hdb : 0 ≤ diN S u v ∧ diN S u v ≤ 20 := by have := sm1_le (c := fun k => S 6 k = 0 ∧ S 2 k = u ∧ S 3 k = v) (S 1 0).toNat; unfold diN di; omega
    refine g_iload C d_M_most_91 rfl rfl ?_
    refine g_iconst (z := 1) C d_M_most_93 rfl rfl ?_
    refine g_aload_n C d_M_most_94 rfl rfl ?_
    refine g_get C 0 0 i_M wY_0 rfl (by decide) k_M_69 rfl rfl d_M_most_95 rfl ?_
    refine g_ishl (z := (M : Int)) C d_M_most_98 (by rw [hM]; exact ishl_ok (by omega) (by omega)) rfl ?_
    refine g_icmp_ge (tgt := 217) C d_M_most_99 (by decide) rfl (by omega) (by omega) (fun h99 => ?_) (fun h99 => ?_)
    · refine g_iload C d_M_most_217 rfl rfl ?_
      refine g_iret C hr hk d_M_most_219 ⟨_, rfl, ?_⟩
      have hiM : i = M := by omega
      subst hiM
      exact Or.inr ⟨by omega, rfl, htb, MI1_end hG (by omega) (by omega) hM hI⟩
    · refine g_iload_n C d_M_most_102 rfl rfl ?_
      refine g_if_ne (tgt := 149) C d_M_most_103 (by decide) rfl (by omega) (fun h103 => ?_) (fun h103 => ?_)
      · refine g_iload_n C d_M_most_149 rfl rfl ?_
        refine g_iconst (z := 1) C d_M_most_150 rfl rfl ?_
        refine g_icmp_ne (tgt := 211) C d_M_most_151 (by decide) rfl (by omega) (by omega) (fun h151 => ?_) (fun h151 => ?_)
        · exact absurd rfl h151
        · refine g_iload C d_M_most_154 rfl rfl ?_
          refine g_iload_n C d_M_most_156 rfl rfl ?_
          refine g_ishr (z := ((i / 2 ^ u.toNat : Nat) : Int)) C d_M_most_157 (ishr_ok (by omega) (by omega) (by omega)) rfl ?_
          refine g_iconst (z := 1) C d_M_most_158 rfl rfl ?_
          refine g_iand (z := ((i / 2 ^ u.toNat % 2 : Nat) : Int)) C d_M_most_159 iand1_ok rfl ?_
          refine g_if_ne (tgt := 211) C d_M_most_160 (by decide) rfl fb_r (fun h160 => ?_) (fun h160 => ?_)
          · obtain ⟨i2, e_i2⟩ : ∃ z : Int, z = (i : Int) + 1 := ⟨_, rfl⟩
            refine g_iinc (q := 0) (z := i2) (lv' := [(6, .int (iI i2)), (4, .int (iI t)), (5, .int (iI (diN S u v))), (0, .ref (a 0)), (1, .int (iI u)), (2, .int (iI v)), (3, .int (iI 1))]) C d_M_most_211 rfl e_i2.symm (by decide) rfl rfl ?_
            refine g_goto (tgt := 91) C d_M_most_214 (by decide) ?_
            first
              | (have hn : MI1 S u v (i + 1) t := MI1_skip hI (fun q1 q2 q3 => absurd (fb_0.mpr q1) h160)
                 refine GG.lvs (lv' := [(6, .int (iI ((i + 1 : Nat) : Int))), (4, .int (iI t)), (5, .int (iI (diN S u v))), (0, .ref (a 0)), (1, .int (iI u)), (2, .int (iI v)), (3, .int (iI 1))]) (by rw [show i2 = ((i + 1 : Nat) : Int) by omega]; simp [lk]) ?_
                 exact ih (i + 1) t (by omega) (by omega) hn)
              | (have hn : MI1 S u v (i + 1) t := MI1_skip hI (fun q1 q2 q3 => absurd (fb_0.mpr q2) h169)
                 refine GG.lvs (lv' := [(6, .int (iI ((i + 1 : Nat) : Int))), (4, .int (iI t)), (5, .int (iI (diN S u v))), (0, .ref (a 0)), (1, .int (iI u)), (2, .int (iI v)), (3, .int (iI 1))]) (by rw [show i2 = ((i + 1 : Nat) : Int) by omega]; simp [lk]) ?_
                 exact ih (i + 1) t (by omega) (by omega) hn)
              | (have h18 : r3 ≠ 0 := h180
                 have hn : MI1 S u v (i + 1) t := MI1_skip hI (fun q1 q2 q3 => by
                   rcases hp3 with q | q
                   · exact absurd q3.choose_spec (q.2 _)
                   · exact absurd q.1 h180)
                 refine GG.lvs (lv' := [(6, .int (iI ((i + 1 : Nat) : Int))), (4, .int (iI t)), (5, .int (iI (diN S u v))), (0, .ref (a 0)), (1, .int (iI u)), (2, .int (iI v)), (3, .int (iI 1))]) (by rw [show i2 = ((i + 1 : Nat) : Int) by omega]; simp [lk]) ?_
                 exact ih (i + 1) t (by omega) (by omega) hn)
              | (have h19 : diN S u v + r4 < t := h193
                 have hg3 : ∃ g : Int → Bool, cloN S u v (fb i) g := by
                   rcases hp3 with q | q
                   · exact absurd q.1 (by omega)
                   · exact q.2
                 have hn : MI1 S u v (i + 1) (diN S u v + mn 8 (fb i)) := MI1_new hI (fb_0.mp h160) (fb_0.mp h169) hg3 (by rw [hp4] at h193; exact Int.le_of_lt h193)
                 refine GG.lvs (lv' := [(6, .int (iI ((i + 1 : Nat) : Int))), (4, .int (iI (diN S u v + mn 8 (fb i)))), (5, .int (iI (diN S u v))), (0, .ref (a 0)), (1, .int (iI u)), (2, .int (iI v)), (3, .int (iI 1))]) (by rw [show i2 = ((i + 1 : Nat) : Int) by omega, e_b2, hp5]; simp [lk]) ?_
                 exact ih (i + 1) _ (by omega) (by omega) hn)
              | (have h19 : t ≤ diN S u v + r4 := h193
                 have hn : MI1 S u v (i + 1) t := MI1_skip hI (fun q1 q2 q3 => by rw [hp4] at h193; exact h193)
                 refine GG.lvs (lv' := [(6, .int (iI ((i + 1 : Nat) : Int))), (4, .int (iI t)), (5, .int (iI (diN S u v))), (0, .ref (a 0)), (1, .int (iI u)), (2, .int (iI v)), (3, .int (iI 1))]) (by rw [show i2 = ((i + 1 : Nat) : Int) by omega, e_b2]; simp [lk]) ?_
                 exact ih (i + 1) t (by omega) (by omega) hn)
          · refine g_iload C d_M_most_163 rfl rfl ?_
            refine g_iload_n C d_M_most_165 rfl rfl ?_
            refine g_ishr (z := ((i / 2 ^ v.toNat : Nat) : Int)) C d_M_most_166 (ishr_ok (by omega) (by omega) (by omega)) rfl ?_
            refine g_iconst (z := 1) C d_M_most_167 rfl rfl ?_
            refine g_iand (z := ((i / 2 ^ v.toNat % 2 : Nat) : Int)) C d_M_most_168 iand1_ok rfl ?_
            refine g_if_ne (tgt := 211) C d_M_most_169 (by decide) rfl fb_r (fun h169 => ?_) (fun h169 => ?_)
            · obtain ⟨i2, e_i2⟩ : ∃ z : Int, z = (i : Int) + 1 := ⟨_, rfl⟩
              refine g_iinc (q := 0) (z := i2) (lv' := [(6, .int (iI i2)), (4, .int (iI t)), (5, .int (iI (diN S u v))), (0, .ref (a 0)), (1, .int (iI u)), (2, .int (iI v)), (3, .int (iI 1))]) C d_M_most_211 rfl e_i2.symm (by decide) rfl rfl ?_
              refine g_goto (tgt := 91) C d_M_most_214 (by decide) ?_
              first
                | (have hn : MI1 S u v (i + 1) t := MI1_skip hI (fun q1 q2 q3 => absurd (fb_0.mpr q1) h160)
                   refine GG.lvs (lv' := [(6, .int (iI ((i + 1 : Nat) : Int))), (4, .int (iI t)), (5, .int (iI (diN S u v))), (0, .ref (a 0)), (1, .int (iI u)), (2, .int (iI v)), (3, .int (iI 1))]) (by rw [show i2 = ((i + 1 : Nat) : Int) by omega]; simp [lk]) ?_
                   exact ih (i + 1) t (by omega) (by omega) hn)
                | (have hn : MI1 S u v (i + 1) t := MI1_skip hI (fun q1 q2 q3 => absurd (fb_0.mpr q2) h169)
                   refine GG.lvs (lv' := [(6, .int (iI ((i + 1 : Nat) : Int))), (4, .int (iI t)), (5, .int (iI (diN S u v))), (0, .ref (a 0)), (1, .int (iI u)), (2, .int (iI v)), (3, .int (iI 1))]) (by rw [show i2 = ((i + 1 : Nat) : Int) by omega]; simp [lk]) ?_
                   exact ih (i + 1) t (by omega) (by omega) hn)
                | (have h18 : r3 ≠ 0 := h180
                   have hn : MI1 S u v (i + 1) t := MI1_skip hI (fun q1 q2 q3 => by
                     rcases hp3 with q | q
                     · exact absurd q3.choose_spec (q.2 _)
                     · exact absurd q.1 h180)
                   refine GG.lvs (lv' := [(6, .int (iI ((i + 1 : Nat) : Int))), (4, .int (iI t)), (5, .int (iI (diN S u v))), (0, .ref (a 0)), (1, .int (iI u)), (2, .int (iI v)), (3, .int (iI 1))]) (by rw [show i2 = ((i + 1 : Nat) : Int) by omega]; simp [lk]) ?_
                   exact ih (i + 1) t (by omega) (by omega) hn)
                | (have h19 : diN S u v + r4 < t := h193
                   have hg3 : ∃ g : Int → Bool, cloN S u v (fb i) g := by
                     rcases hp3 with q | q
                     · exact absurd q.1 (by omega)
                     · exact q.2
                   have hn : MI1 S u v (i + 1) (diN S u v + mn 8 (fb i)) := MI1_new hI (fb_0.mp h160) (fb_0.mp h169) hg3 (by rw [hp4] at h193; exact Int.le_of_lt h193)
                   refine GG.lvs (lv' := [(6, .int (iI ((i + 1 : Nat) : Int))), (4, .int (iI (diN S u v + mn 8 (fb i)))), (5, .int (iI (diN S u v))), (0, .ref (a 0)), (1, .int (iI u)), (2, .int (iI v)), (3, .int (iI 1))]) (by rw [show i2 = ((i + 1 : Nat) : Int) by omega, e_b2, hp5]; simp [lk]) ?_
                   exact ih (i + 1) _ (by omega) (by omega) hn)
                | (have h19 : t ≤ diN S u v + r4 := h193
                   have hn : MI1 S u v (i + 1) t := MI1_skip hI (fun q1 q2 q3 => by rw [hp4] at h193; exact h193)
                   refine GG.lvs (lv' := [(6, .int (iI ((i + 1 : Nat) : Int))), (4, .int (iI t)), (5, .int (iI (diN S u v))), (0, .ref (a 0)), (1, .int (iI u)), (2, .int (iI v)), (3, .int (iI 1))]) (by rw [show i2 = ((i + 1 : Nat) : Int) by omega, e_b2]; simp [lk]) ?_
                   exact ih (i + 1) t (by omega) (by omega) hn)
            · refine g_aload_n C d_M_most_172 rfl rfl ?_
              refine g_iload_n C d_M_most_173 rfl rfl ?_
              refine g_iload_n C d_M_most_174 rfl rfl ?_
              refine g_iload C d_M_most_175 rfl rfl ?_
              refine g_runI (wY_fix a ki kz kl kq) rfl (rn_V C (m_M_isJoined (w := i) hG (by omega) (by omega) (by omega)) 0 3 wY_0 rfl rfl kc_M_isJoined k_M_137 ki_M_isJoined kx_M_isJoined kn_M hy_M_isJoined ⟨rfl, rfl⟩ ⟨by decide, by decide⟩ ⟨Nat.le_refl _, Nat.le_refl _⟩ rfl rfl (Nat.le_of_ble_eq_true rfl) d_M_most_177) (fun r3 S3 hp3 => ?_)
              obtain ⟨hS3, hp3⟩ := hp3
              refine GG.at hS3 ?_
              refine g_if_ne (tgt := 211) C d_M_most_180 (by decide) rfl (by omega) (fun h180 => ?_) (fun h180 => ?_)
              · obtain ⟨i2, e_i2⟩ : ∃ z : Int, z = (i : Int) + 1 := ⟨_, rfl⟩
                refine g_iinc (q := 0) (z := i2) (lv' := [(6, .int (iI i2)), (4, .int (iI t)), (5, .int (iI (diN S u v))), (0, .ref (a 0)), (1, .int (iI u)), (2, .int (iI v)), (3, .int (iI 1))]) C d_M_most_211 rfl e_i2.symm (by decide) rfl rfl ?_
                refine g_goto (tgt := 91) C d_M_most_214 (by decide) ?_
                first
                  | (have hn : MI1 S u v (i + 1) t := MI1_skip hI (fun q1 q2 q3 => absurd (fb_0.mpr q1) h160)
                     refine GG.lvs (lv' := [(6, .int (iI ((i + 1 : Nat) : Int))), (4, .int (iI t)), (5, .int (iI (diN S u v))), (0, .ref (a 0)), (1, .int (iI u)), (2, .int (iI v)), (3, .int (iI 1))]) (by rw [show i2 = ((i + 1 : Nat) : Int) by omega]; simp [lk]) ?_
                     exact ih (i + 1) t (by omega) (by omega) hn)
                  | (have hn : MI1 S u v (i + 1) t := MI1_skip hI (fun q1 q2 q3 => absurd (fb_0.mpr q2) h169)
                     refine GG.lvs (lv' := [(6, .int (iI ((i + 1 : Nat) : Int))), (4, .int (iI t)), (5, .int (iI (diN S u v))), (0, .ref (a 0)), (1, .int (iI u)), (2, .int (iI v)), (3, .int (iI 1))]) (by rw [show i2 = ((i + 1 : Nat) : Int) by omega]; simp [lk]) ?_
                     exact ih (i + 1) t (by omega) (by omega) hn)
                  | (have h18 : r3 ≠ 0 := h180
                     have hn : MI1 S u v (i + 1) t := MI1_skip hI (fun q1 q2 q3 => by
                       rcases hp3 with q | q
                       · exact absurd q3.choose_spec (q.2 _)
                       · exact absurd q.1 h180)
                     refine GG.lvs (lv' := [(6, .int (iI ((i + 1 : Nat) : Int))), (4, .int (iI t)), (5, .int (iI (diN S u v))), (0, .ref (a 0)), (1, .int (iI u)), (2, .int (iI v)), (3, .int (iI 1))]) (by rw [show i2 = ((i + 1 : Nat) : Int) by omega]; simp [lk]) ?_
                     exact ih (i + 1) t (by omega) (by omega) hn)
                  | (have h19 : diN S u v + r4 < t := h193
                     have hg3 : ∃ g : Int → Bool, cloN S u v (fb i) g := by
                       rcases hp3 with q | q
                       · exact absurd q.1 (by omega)
                       · exact q.2
                     have hn : MI1 S u v (i + 1) (diN S u v + mn 8 (fb i)) := MI1_new hI (fb_0.mp h160) (fb_0.mp h169) hg3 (by rw [hp4] at h193; exact Int.le_of_lt h193)
                     refine GG.lvs (lv' := [(6, .int (iI ((i + 1 : Nat) : Int))), (4, .int (iI (diN S u v + mn 8 (fb i)))), (5, .int (iI (diN S u v))), (0, .ref (a 0)), (1, .int (iI u)), (2, .int (iI v)), (3, .int (iI 1))]) (by rw [show i2 = ((i + 1 : Nat) : Int) by omega, e_b2, hp5]; simp [lk]) ?_
                     exact ih (i + 1) _ (by omega) (by omega) hn)
                  | (have h19 : t ≤ diN S u v + r4 := h193
                     have hn : MI1 S u v (i + 1) t := MI1_skip hI (fun q1 q2 q3 => by rw [hp4] at h193; exact h193)
                     refine GG.lvs (lv' := [(6, .int (iI ((i + 1 : Nat) : Int))), (4, .int (iI t)), (5, .int (iI (diN S u v))), (0, .ref (a 0)), (1, .int (iI u)), (2, .int (iI v)), (3, .int (iI 1))]) (by rw [show i2 = ((i + 1 : Nat) : Int) by omega, e_b2]; simp [lk]) ?_
                     exact ih (i + 1) t (by omega) (by omega) hn)
              · refine g_iload C d_M_most_183 rfl rfl ?_
                refine g_iload C d_M_most_185 rfl rfl ?_
                refine g_runI (wY_fix a ki kz kl kq) rfl (rn_S C (m_M_many (by omega)) 1 kc_M_many k_M_140 ks_M_many kn_M hy_M_many ⟨rfl, rfl⟩ ⟨by decide, by decide⟩ ⟨Nat.le_refl _, Nat.le_refl _⟩ rfl rfl (Nat.le_of_ble_eq_true rfl) d_M_most_187) (fun r4 S4 hp4 => ?_)
                obtain ⟨hS4, hp4⟩ := hp4
                refine GG.at hS4 ?_
                have hb4 : 0 ≤ r4 ∧ r4 ≤ 8 := by have := sm1_le (c := fun k => fb i k = true) 8; rw [hp4]; unfold mn; omega
                refine g_iadd (z := (diN S u v + r4)) C d_M_most_190 rfl rfl ?_
                refine g_iload C d_M_most_191 rfl rfl ?_
                refine g_icmp_ge (tgt := 207) C d_M_most_193 (by decide) rfl (by omega) (by omega) (fun h193 => ?_) (fun h193 => ?_)
                · refine g_iload C d_M_most_207 rfl rfl ?_
                  refine g_nm (fun b2 e_b2 => ?_)
                  refine g_istore (lv' := [(4, .int (iI b2)), (6, .int (iI (i : Int))), (5, .int (iI (diN S u v))), (0, .ref (a 0)), (1, .int (iI u)), (2, .int (iI v)), (3, .int (iI 1))]) C d_M_most_209 (by decide) rfl rfl ?_
                  obtain ⟨i2, e_i2⟩ : ∃ z : Int, z = (i : Int) + 1 := ⟨_, rfl⟩
                  refine g_iinc (q := 1) (z := i2) (lv' := [(6, .int (iI i2)), (4, .int (iI b2)), (5, .int (iI (diN S u v))), (0, .ref (a 0)), (1, .int (iI u)), (2, .int (iI v)), (3, .int (iI 1))]) C d_M_most_211 rfl e_i2.symm (by decide) rfl rfl ?_
                  refine g_goto (tgt := 91) C d_M_most_214 (by decide) ?_
                  first
                    | (have hn : MI1 S u v (i + 1) t := MI1_skip hI (fun q1 q2 q3 => absurd (fb_0.mpr q1) h160)
                       refine GG.lvs (lv' := [(6, .int (iI ((i + 1 : Nat) : Int))), (4, .int (iI t)), (5, .int (iI (diN S u v))), (0, .ref (a 0)), (1, .int (iI u)), (2, .int (iI v)), (3, .int (iI 1))]) (by rw [show i2 = ((i + 1 : Nat) : Int) by omega]; simp [lk]) ?_
                       exact ih (i + 1) t (by omega) (by omega) hn)
                    | (have hn : MI1 S u v (i + 1) t := MI1_skip hI (fun q1 q2 q3 => absurd (fb_0.mpr q2) h169)
                       refine GG.lvs (lv' := [(6, .int (iI ((i + 1 : Nat) : Int))), (4, .int (iI t)), (5, .int (iI (diN S u v))), (0, .ref (a 0)), (1, .int (iI u)), (2, .int (iI v)), (3, .int (iI 1))]) (by rw [show i2 = ((i + 1 : Nat) : Int) by omega]; simp [lk]) ?_
                       exact ih (i + 1) t (by omega) (by omega) hn)
                    | (have h18 : r3 ≠ 0 := h180
                       have hn : MI1 S u v (i + 1) t := MI1_skip hI (fun q1 q2 q3 => by
                         rcases hp3 with q | q
                         · exact absurd q3.choose_spec (q.2 _)
                         · exact absurd q.1 h180)
                       refine GG.lvs (lv' := [(6, .int (iI ((i + 1 : Nat) : Int))), (4, .int (iI t)), (5, .int (iI (diN S u v))), (0, .ref (a 0)), (1, .int (iI u)), (2, .int (iI v)), (3, .int (iI 1))]) (by rw [show i2 = ((i + 1 : Nat) : Int) by omega]; simp [lk]) ?_
                       exact ih (i + 1) t (by omega) (by omega) hn)
                    | (have h19 : diN S u v + r4 < t := h193
                       have hg3 : ∃ g : Int → Bool, cloN S u v (fb i) g := by
                         rcases hp3 with q | q
                         · exact absurd q.1 (by omega)
                         · exact q.2
                       have hn : MI1 S u v (i + 1) (diN S u v + mn 8 (fb i)) := MI1_new hI (fb_0.mp h160) (fb_0.mp h169) hg3 (by rw [hp4] at h193; exact Int.le_of_lt h193)
                       refine GG.lvs (lv' := [(6, .int (iI ((i + 1 : Nat) : Int))), (4, .int (iI (diN S u v + mn 8 (fb i)))), (5, .int (iI (diN S u v))), (0, .ref (a 0)), (1, .int (iI u)), (2, .int (iI v)), (3, .int (iI 1))]) (by rw [show i2 = ((i + 1 : Nat) : Int) by omega, e_b2, hp5]; simp [lk]) ?_
                       exact ih (i + 1) _ (by omega) (by omega) hn)
                    | (have h19 : t ≤ diN S u v + r4 := h193
                       have hn : MI1 S u v (i + 1) t := MI1_skip hI (fun q1 q2 q3 => by rw [hp4] at h193; exact h193)
                       refine GG.lvs (lv' := [(6, .int (iI ((i + 1 : Nat) : Int))), (4, .int (iI t)), (5, .int (iI (diN S u v))), (0, .ref (a 0)), (1, .int (iI u)), (2, .int (iI v)), (3, .int (iI 1))]) (by rw [show i2 = ((i + 1 : Nat) : Int) by omega, e_b2]; simp [lk]) ?_
                       exact ih (i + 1) t (by omega) (by omega) hn)
                · refine g_iload C d_M_most_196 rfl rfl ?_
                  refine g_iload C d_M_most_198 rfl rfl ?_
                  refine g_runI (wY_fix a ki kz kl kq) rfl (rn_S C (m_M_many (by omega)) 1 kc_M_many k_M_140 ks_M_many kn_M hy_M_many ⟨rfl, rfl⟩ ⟨by decide, by decide⟩ ⟨Nat.le_refl _, Nat.le_refl _⟩ rfl rfl (Nat.le_of_ble_eq_true rfl) d_M_most_200) (fun r5 S5 hp5 => ?_)
                  obtain ⟨hS5, hp5⟩ := hp5
                  refine GG.at hS5 ?_
                  have hb5 : 0 ≤ r5 ∧ r5 ≤ 8 := by have := sm1_le (c := fun k => fb i k = true) 8; rw [hp5]; unfold mn; omega
                  refine g_iadd (z := (diN S u v + r5)) C d_M_most_203 rfl rfl ?_
                  refine g_goto (tgt := 209) C d_M_most_204 (by decide) ?_
                  refine g_nm (fun b2 e_b2 => ?_)
                  refine g_istore (lv' := [(4, .int (iI b2)), (6, .int (iI (i : Int))), (5, .int (iI (diN S u v))), (0, .ref (a 0)), (1, .int (iI u)), (2, .int (iI v)), (3, .int (iI 1))]) C d_M_most_209 (by decide) rfl rfl ?_
                  obtain ⟨i2, e_i2⟩ : ∃ z : Int, z = (i : Int) + 1 := ⟨_, rfl⟩
                  refine g_iinc (q := 1) (z := i2) (lv' := [(6, .int (iI i2)), (4, .int (iI b2)), (5, .int (iI (diN S u v))), (0, .ref (a 0)), (1, .int (iI u)), (2, .int (iI v)), (3, .int (iI 1))]) C d_M_most_211 rfl e_i2.symm (by decide) rfl rfl ?_
                  refine g_goto (tgt := 91) C d_M_most_214 (by decide) ?_
                  first
                    | (have hn : MI1 S u v (i + 1) t := MI1_skip hI (fun q1 q2 q3 => absurd (fb_0.mpr q1) h160)
                       refine GG.lvs (lv' := [(6, .int (iI ((i + 1 : Nat) : Int))), (4, .int (iI t)), (5, .int (iI (diN S u v))), (0, .ref (a 0)), (1, .int (iI u)), (2, .int (iI v)), (3, .int (iI 1))]) (by rw [show i2 = ((i + 1 : Nat) : Int) by omega]; simp [lk]) ?_
                       exact ih (i + 1) t (by omega) (by omega) hn)
                    | (have hn : MI1 S u v (i + 1) t := MI1_skip hI (fun q1 q2 q3 => absurd (fb_0.mpr q2) h169)
                       refine GG.lvs (lv' := [(6, .int (iI ((i + 1 : Nat) : Int))), (4, .int (iI t)), (5, .int (iI (diN S u v))), (0, .ref (a 0)), (1, .int (iI u)), (2, .int (iI v)), (3, .int (iI 1))]) (by rw [show i2 = ((i + 1 : Nat) : Int) by omega]; simp [lk]) ?_
                       exact ih (i + 1) t (by omega) (by omega) hn)
                    | (have h18 : r3 ≠ 0 := h180
                       have hn : MI1 S u v (i + 1) t := MI1_skip hI (fun q1 q2 q3 => by
                         rcases hp3 with q | q
                         · exact absurd q3.choose_spec (q.2 _)
                         · exact absurd q.1 h180)
                       refine GG.lvs (lv' := [(6, .int (iI ((i + 1 : Nat) : Int))), (4, .int (iI t)), (5, .int (iI (diN S u v))), (0, .ref (a 0)), (1, .int (iI u)), (2, .int (iI v)), (3, .int (iI 1))]) (by rw [show i2 = ((i + 1 : Nat) : Int) by omega]; simp [lk]) ?_
                       exact ih (i + 1) t (by omega) (by omega) hn)
                    | (have h19 : diN S u v + r4 < t := h193
                       have hg3 : ∃ g : Int → Bool, cloN S u v (fb i) g := by
                         rcases hp3 with q | q
                         · exact absurd q.1 (by omega)
                         · exact q.2
                       have hn : MI1 S u v (i + 1) (diN S u v + mn 8 (fb i)) := MI1_new hI (fb_0.mp h160) (fb_0.mp h169) hg3 (by rw [hp4] at h193; exact Int.le_of_lt h193)
                       refine GG.lvs (lv' := [(6, .int (iI ((i + 1 : Nat) : Int))), (4, .int (iI (diN S u v + mn 8 (fb i)))), (5, .int (iI (diN S u v))), (0, .ref (a 0)), (1, .int (iI u)), (2, .int (iI v)), (3, .int (iI 1))]) (by rw [show i2 = ((i + 1 : Nat) : Int) by omega, e_b2, hp5]; simp [lk]) ?_
                       exact ih (i + 1) _ (by omega) (by omega) hn)
                    | (have h19 : t ≤ diN S u v + r4 := h193
                       have hn : MI1 S u v (i + 1) t := MI1_skip hI (fun q1 q2 q3 => by rw [hp4] at h193; exact h193)
                       refine GG.lvs (lv' := [(6, .int (iI ((i + 1 : Nat) : Int))), (4, .int (iI t)), (5, .int (iI (diN S u v))), (0, .ref (a 0)), (1, .int (iI u)), (2, .int (iI v)), (3, .int (iI 1))]) (by rw [show i2 = ((i + 1 : Nat) : Int) by omega, e_b2]; simp [lk]) ?_
                       exact ih (i + 1) t (by omega) (by omega) hn)
      · exact absurd h103 (by decide)

set_option maxRecDepth 100000 in
set_option maxHeartbeats 4000000 in
theorem lo_M_most {l : Launch} {D : va_G} {a : Nat → Nat} {ki kz kl kq : ClassId} {p : Program} {e : Env} {s : State} {m : MethodId} {args : Array Value} {below : List Frame} {meth : Method} {c : Code} {S : Nat → Int → Int} {u v y : Int} (hG : GJ S) (h2 : twoS S u v) (hy1 : 0 ≤ y ∧ y ≤ 1) (C : CX p s m args c b_M_most 7 "NextPathsModel" TT D cls (tyz ki kz kl kq)) (hr : meth.sig.returnType = (some .int)) (hk : meth.locks = false) : ∀ (j i : Nat), i ≤ (S 1 0).toNat → (S 1 0).toNat ≤ i + j → GG p l e rm_M_most s m args below meth c D cls (adr (wY a ki kz kl kq S)) 7 0 0 (MQ below (QcW D cls (wY a ki kz kl kq) S (pI fun r S' => (¬ (twoS S u v ∧ (0 ≤ y ∧ y ≤ 1)) ∧ r = -2 ∧ S' = S) ∨ ((twoS S u v ∧ (0 ≤ y ∧ y ≤ 1)) ∧ S' = S ∧ (0 ≤ r ∧ r ≤ 20) ∧ cuL S u v y r ∧ (r = 20 ∨ cuG S u v y r)))) args s 0 0 (adr (wY a ki kz kl kq S))) (wY a ki kz kl kq) S [(6, .int (iI (i : Int))), (5, .int (iI (di i (S 2) (S 3) (S 6) u v))), (4, .int (iI 20)), (0, .ref (a 0)), (1, .int (iI u)), (2, .int (iI v)), (3, .int (iI y))] 31 [] := by
  intro j
  induction j with
  | zero =>
    intro i hi hk0
    have hn8 := hG.1
    have hn20 := hG.2.1
    have hgk := hG.2.2.2.2.1 i
    refine g_iload C d_M_most_31 rfl rfl ?_
    refine g_aload_n C d_M_most_33 rfl rfl ?_
    refine g_get C 0 1 i_M wY_0 rfl (by decide) k_M_73 rfl rfl d_M_most_34 rfl ?_
    refine g_icmp_ge (tgt := 88) C d_M_most_37 (by decide) rfl (by omega) (by omega) (fun h37 => ?_) (fun h37 => ?_)
    · refine g_iconst (z := 0) C d_M_most_88 rfl rfl ?_
      refine g_nm (fun i0 e_i0 => ?_)
      refine g_istore (lv' := [(6, .int (iI i0)), (5, .int (iI (di i (S 2) (S 3) (S 6) u v))), (4, .int (iI 20)), (0, .ref (a 0)), (1, .int (iI u)), (2, .int (iI v)), (3, .int (iI y))]) C d_M_most_89 (by decide) rfl rfl ?_
      subst e_i0
      have hin : i = (S 1 0).toNat := by omega
      subst hin
      have hM8 : 2 ^ (S 0 0).toNat ≤ 256 := Nat.pow_le_pow_right (n := 2) (i := (S 0 0).toNat) (j := 8) (by omega) (by omega)
      rcases (show y = 0 ∨ y = 1 by omega) with hy0 | hy0
      · subst hy0
        refine GG.lvs (lv' := [(6, .int (iI ((0 : Nat) : Int))), (4, .int (iI 20)), (5, .int (iI (diN S u v))), (0, .ref (a 0)), (1, .int (iI u)), (2, .int (iI v)), (3, .int (iI 0))]) (by simp [lk]) ?_
        exact lo_M_most0 hG h2 rfl hM8 C hr hk _ 0 20 (Nat.zero_le _) (Nat.le_add_left _ _) ⟨by omega, fun s hs => by omega, Or.inl rfl⟩
      · subst hy0
        refine GG.lvs (lv' := [(6, .int (iI ((0 : Nat) : Int))), (4, .int (iI 20)), (5, .int (iI (diN S u v))), (0, .ref (a 0)), (1, .int (iI u)), (2, .int (iI v)), (3, .int (iI 1))]) (by simp [lk]) ?_
        exact lo_M_most1 hG h2 rfl hM8 C hr hk _ 0 20 (Nat.zero_le _) (Nat.le_add_left _ _) ⟨by omega, fun s hs => by omega, Or.inl rfl⟩
    · exact absurd h37 (by omega)
  | succ j ih =>
    intro i hi hk0
    have hn8 := hG.1
    have hn20 := hG.2.1
    have hgk := hG.2.2.2.2.1 i
    refine g_iload C d_M_most_31 rfl rfl ?_
    refine g_aload_n C d_M_most_33 rfl rfl ?_
    refine g_get C 0 1 i_M wY_0 rfl (by decide) k_M_73 rfl rfl d_M_most_34 rfl ?_
    refine g_icmp_ge (tgt := 88) C d_M_most_37 (by decide) rfl (by omega) (by omega) (fun h37 => ?_) (fun h37 => ?_)
    · refine g_iconst (z := 0) C d_M_most_88 rfl rfl ?_
      refine g_nm (fun i0 e_i0 => ?_)
      refine g_istore (lv' := [(6, .int (iI i0)), (5, .int (iI (di i (S 2) (S 3) (S 6) u v))), (4, .int (iI 20)), (0, .ref (a 0)), (1, .int (iI u)), (2, .int (iI v)), (3, .int (iI y))]) C d_M_most_89 (by decide) rfl rfl ?_
      subst e_i0
      have hin : i = (S 1 0).toNat := by omega
      subst hin
      have hM8 : 2 ^ (S 0 0).toNat ≤ 256 := Nat.pow_le_pow_right (n := 2) (i := (S 0 0).toNat) (j := 8) (by omega) (by omega)
      rcases (show y = 0 ∨ y = 1 by omega) with hy0 | hy0
      · subst hy0
        refine GG.lvs (lv' := [(6, .int (iI ((0 : Nat) : Int))), (4, .int (iI 20)), (5, .int (iI (diN S u v))), (0, .ref (a 0)), (1, .int (iI u)), (2, .int (iI v)), (3, .int (iI 0))]) (by simp [lk]) ?_
        exact lo_M_most0 hG h2 rfl hM8 C hr hk _ 0 20 (Nat.zero_le _) (Nat.le_add_left _ _) ⟨by omega, fun s hs => by omega, Or.inl rfl⟩
      · subst hy0
        refine GG.lvs (lv' := [(6, .int (iI ((0 : Nat) : Int))), (4, .int (iI 20)), (5, .int (iI (diN S u v))), (0, .ref (a 0)), (1, .int (iI u)), (2, .int (iI v)), (3, .int (iI 1))]) (by simp [lk]) ?_
        exact lo_M_most1 hG h2 rfl hM8 C hr hk _ 0 20 (Nat.zero_le _) (Nat.le_add_left _ _) ⟨by omega, fun s hs => by omega, Or.inl rfl⟩
    · refine g_iload C d_M_most_40 rfl rfl ?_
      refine g_aload_n C d_M_most_42 rfl rfl ?_
      refine g_get C 0 6 i_M wY_0 rfl (by decide) k_M_22 rfl rfl d_M_most_43 rfl ?_
      refine g_iload C d_M_most_46 rfl rfl ?_
      refine g_zald C 5 1 wY_5 rfl (by omega) (by omega) (by decide) d_M_most_48 rfl ?_
      refine g_if_ne (tgt := 78) C d_M_most_49 (by decide) rfl (by omega) (fun h49 => ?_) (fun h49 => ?_)
      · refine g_iconst (z := 0) C d_M_most_78 rfl rfl ?_
        refine g_iadd C d_M_most_79 rfl rfl ?_
        refine g_nm (fun r2 e_r2 => ?_)
        refine g_istore (lv' := [(5, .int (iI r2)), (6, .int (iI (i : Int))), (4, .int (iI 20)), (0, .ref (a 0)), (1, .int (iI u)), (2, .int (iI v)), (3, .int (iI y))]) C d_M_most_80 (by decide) rfl rfl ?_
        obtain ⟨i2, e_i2⟩ : ∃ z : Int, z = (i : Int) + 1 := ⟨_, rfl⟩
        refine g_iinc (q := 1) (z := i2) (lv' := [(6, .int (iI i2)), (5, .int (iI r2)), (4, .int (iI 20)), (0, .ref (a 0)), (1, .int (iI u)), (2, .int (iI v)), (3, .int (iI y))]) C d_M_most_82 rfl e_i2.symm (by decide) rfl rfl ?_
        refine g_goto (tgt := 31) C d_M_most_85 (by decide) ?_
        refine GG.lvs (lv' := [(6, .int (iI ((i + 1 : Nat) : Int))), (5, .int (iI (di (i + 1) (S 2) (S 3) (S 6) u v))), (4, .int (iI 20)), (0, .ref (a 0)), (1, .int (iI u)), (2, .int (iI v)), (3, .int (iI y))]) ?_ (ih (i + 1) (by omega) (by omega))
        have q1 : i2 = ((i + 1 : Nat) : Int) := by omega
        have q2 : r2 = di (i + 1) (S 2) (S 3) (S 6) u v := by
          rw [e_r2]
          show _ = di i (S 2) (S 3) (S 6) u v + (if S 6 i = 0 ∧ S 2 i = u ∧ S 3 i = v then 1 else 0)
          first
            | (have hh : S 6 i = 0 ∧ S 2 i = u ∧ S 3 i = v := And.intro h49 (And.intro h60 h71); rw [if_pos hh])
            | (have hh : ¬ (S 6 i = 0 ∧ S 2 i = u ∧ S 3 i = v) := fun q => h49 q.1; rw [if_neg hh])
            | (have hh : ¬ (S 6 i = 0 ∧ S 2 i = u ∧ S 3 i = v) := fun q => h60 q.2.1; rw [if_neg hh])
            | (have hh : ¬ (S 6 i = 0 ∧ S 2 i = u ∧ S 3 i = v) := fun q => h71 q.2.2; rw [if_neg hh])
        rw [q1, q2]
        simp [lk]
      · refine g_aload_n C d_M_most_52 rfl rfl ?_
        refine g_get C 0 2 i_M wY_0 rfl (by decide) k_M_7 rfl rfl d_M_most_53 rfl ?_
        refine g_iload C d_M_most_56 rfl rfl ?_
        refine g_iald C 1 0 wY_1 rfl (by omega) (by omega) (by decide) d_M_most_58 rfl ?_
        refine g_iload_n C d_M_most_59 rfl rfl ?_
        refine g_icmp_ne (tgt := 78) C d_M_most_60 (by decide) rfl (by omega) (by omega) (fun h60 => ?_) (fun h60 => ?_)
        · refine g_iconst (z := 0) C d_M_most_78 rfl rfl ?_
          refine g_iadd C d_M_most_79 rfl rfl ?_
          refine g_nm (fun r2 e_r2 => ?_)
          refine g_istore (lv' := [(5, .int (iI r2)), (6, .int (iI (i : Int))), (4, .int (iI 20)), (0, .ref (a 0)), (1, .int (iI u)), (2, .int (iI v)), (3, .int (iI y))]) C d_M_most_80 (by decide) rfl rfl ?_
          obtain ⟨i2, e_i2⟩ : ∃ z : Int, z = (i : Int) + 1 := ⟨_, rfl⟩
          refine g_iinc (q := 1) (z := i2) (lv' := [(6, .int (iI i2)), (5, .int (iI r2)), (4, .int (iI 20)), (0, .ref (a 0)), (1, .int (iI u)), (2, .int (iI v)), (3, .int (iI y))]) C d_M_most_82 rfl e_i2.symm (by decide) rfl rfl ?_
          refine g_goto (tgt := 31) C d_M_most_85 (by decide) ?_
          refine GG.lvs (lv' := [(6, .int (iI ((i + 1 : Nat) : Int))), (5, .int (iI (di (i + 1) (S 2) (S 3) (S 6) u v))), (4, .int (iI 20)), (0, .ref (a 0)), (1, .int (iI u)), (2, .int (iI v)), (3, .int (iI y))]) ?_ (ih (i + 1) (by omega) (by omega))
          have q1 : i2 = ((i + 1 : Nat) : Int) := by omega
          have q2 : r2 = di (i + 1) (S 2) (S 3) (S 6) u v := by
            rw [e_r2]
            show _ = di i (S 2) (S 3) (S 6) u v + (if S 6 i = 0 ∧ S 2 i = u ∧ S 3 i = v then 1 else 0)
            first
              | (have hh : S 6 i = 0 ∧ S 2 i = u ∧ S 3 i = v := And.intro h49 (And.intro h60 h71); rw [if_pos hh])
              | (have hh : ¬ (S 6 i = 0 ∧ S 2 i = u ∧ S 3 i = v) := fun q => h49 q.1; rw [if_neg hh])
              | (have hh : ¬ (S 6 i = 0 ∧ S 2 i = u ∧ S 3 i = v) := fun q => h60 q.2.1; rw [if_neg hh])
              | (have hh : ¬ (S 6 i = 0 ∧ S 2 i = u ∧ S 3 i = v) := fun q => h71 q.2.2; rw [if_neg hh])
          rw [q1, q2]
          simp [lk]
        · refine g_aload_n C d_M_most_63 rfl rfl ?_
          refine g_get C 0 3 i_M wY_0 rfl (by decide) k_M_13 rfl rfl d_M_most_64 rfl ?_
          refine g_iload C d_M_most_67 rfl rfl ?_
          refine g_iald C 2 0 wY_2 rfl (by omega) (by omega) (by decide) d_M_most_69 rfl ?_
          refine g_iload_n C d_M_most_70 rfl rfl ?_
          refine g_icmp_ne (tgt := 78) C d_M_most_71 (by decide) rfl (by omega) (by omega) (fun h71 => ?_) (fun h71 => ?_)
          · refine g_iconst (z := 0) C d_M_most_78 rfl rfl ?_
            refine g_iadd C d_M_most_79 rfl rfl ?_
            refine g_nm (fun r2 e_r2 => ?_)
            refine g_istore (lv' := [(5, .int (iI r2)), (6, .int (iI (i : Int))), (4, .int (iI 20)), (0, .ref (a 0)), (1, .int (iI u)), (2, .int (iI v)), (3, .int (iI y))]) C d_M_most_80 (by decide) rfl rfl ?_
            obtain ⟨i2, e_i2⟩ : ∃ z : Int, z = (i : Int) + 1 := ⟨_, rfl⟩
            refine g_iinc (q := 1) (z := i2) (lv' := [(6, .int (iI i2)), (5, .int (iI r2)), (4, .int (iI 20)), (0, .ref (a 0)), (1, .int (iI u)), (2, .int (iI v)), (3, .int (iI y))]) C d_M_most_82 rfl e_i2.symm (by decide) rfl rfl ?_
            refine g_goto (tgt := 31) C d_M_most_85 (by decide) ?_
            refine GG.lvs (lv' := [(6, .int (iI ((i + 1 : Nat) : Int))), (5, .int (iI (di (i + 1) (S 2) (S 3) (S 6) u v))), (4, .int (iI 20)), (0, .ref (a 0)), (1, .int (iI u)), (2, .int (iI v)), (3, .int (iI y))]) ?_ (ih (i + 1) (by omega) (by omega))
            have q1 : i2 = ((i + 1 : Nat) : Int) := by omega
            have q2 : r2 = di (i + 1) (S 2) (S 3) (S 6) u v := by
              rw [e_r2]
              show _ = di i (S 2) (S 3) (S 6) u v + (if S 6 i = 0 ∧ S 2 i = u ∧ S 3 i = v then 1 else 0)
              first
                | (have hh : S 6 i = 0 ∧ S 2 i = u ∧ S 3 i = v := And.intro h49 (And.intro h60 h71); rw [if_pos hh])
                | (have hh : ¬ (S 6 i = 0 ∧ S 2 i = u ∧ S 3 i = v) := fun q => h49 q.1; rw [if_neg hh])
                | (have hh : ¬ (S 6 i = 0 ∧ S 2 i = u ∧ S 3 i = v) := fun q => h60 q.2.1; rw [if_neg hh])
                | (have hh : ¬ (S 6 i = 0 ∧ S 2 i = u ∧ S 3 i = v) := fun q => h71 q.2.2; rw [if_neg hh])
            rw [q1, q2]
            simp [lk]
          · refine g_iconst (z := 1) C d_M_most_74 rfl rfl ?_
            refine g_goto (tgt := 79) C d_M_most_75 (by decide) ?_
            refine g_iadd C d_M_most_79 rfl rfl ?_
            refine g_nm (fun r2 e_r2 => ?_)
            refine g_istore (lv' := [(5, .int (iI r2)), (6, .int (iI (i : Int))), (4, .int (iI 20)), (0, .ref (a 0)), (1, .int (iI u)), (2, .int (iI v)), (3, .int (iI y))]) C d_M_most_80 (by decide) rfl rfl ?_
            obtain ⟨i2, e_i2⟩ : ∃ z : Int, z = (i : Int) + 1 := ⟨_, rfl⟩
            refine g_iinc (q := 1) (z := i2) (lv' := [(6, .int (iI i2)), (5, .int (iI r2)), (4, .int (iI 20)), (0, .ref (a 0)), (1, .int (iI u)), (2, .int (iI v)), (3, .int (iI y))]) C d_M_most_82 rfl e_i2.symm (by decide) rfl rfl ?_
            refine g_goto (tgt := 31) C d_M_most_85 (by decide) ?_
            refine GG.lvs (lv' := [(6, .int (iI ((i + 1 : Nat) : Int))), (5, .int (iI (di (i + 1) (S 2) (S 3) (S 6) u v))), (4, .int (iI 20)), (0, .ref (a 0)), (1, .int (iI u)), (2, .int (iI v)), (3, .int (iI y))]) ?_ (ih (i + 1) (by omega) (by omega))
            have q1 : i2 = ((i + 1 : Nat) : Int) := by omega
            have q2 : r2 = di (i + 1) (S 2) (S 3) (S 6) u v := by
              rw [e_r2]
              show _ = di i (S 2) (S 3) (S 6) u v + (if S 6 i = 0 ∧ S 2 i = u ∧ S 3 i = v then 1 else 0)
              first
                | (have hh : S 6 i = 0 ∧ S 2 i = u ∧ S 3 i = v := And.intro h49 (And.intro h60 h71); rw [if_pos hh])
                | (have hh : ¬ (S 6 i = 0 ∧ S 2 i = u ∧ S 3 i = v) := fun q => h49 q.1; rw [if_neg hh])
                | (have hh : ¬ (S 6 i = 0 ∧ S 2 i = u ∧ S 3 i = v) := fun q => h60 q.2.1; rw [if_neg hh])
                | (have hh : ¬ (S 6 i = 0 ∧ S 2 i = u ∧ S 3 i = v) := fun q => h71 q.2.2; rw [if_neg hh])
            rw [q1, q2]
            simp [lk]

set_option maxRecDepth 100000 in
set_option maxHeartbeats 4000000 in
theorem m_M_most {l : Launch} {D : va_G} {a : Nat → Nat} {ki kz kl kq : ClassId} {S : Nat → Int → Int} {u v y : Int} (hG : GJ S) (hu : r32 u) (hv : r32 v) (hy : r32 y) : MY l D a ki kz kl kq y_M_most b_M_most 7 (some .int) rm_M_most [.ref (a 0), .int (iI u), .int (iI v), .int (iI y)] S (pI fun r S' => (¬ (twoS S u v ∧ (0 ≤ y ∧ y ≤ 1)) ∧ r = -2 ∧ S' = S) ∨ ((twoS S u v ∧ (0 ≤ y ∧ y ≤ 1)) ∧ S' = S ∧ (0 ≤ r ∧ r ≤ 20) ∧ cuL S u v y r ∧ (r = 20 ∨ cuG S u v y r))) := by
  refine MM.go b_M_most 7 (some .int) "NextPathsModel" [(0, .ref (a 0)), (1, .int (iI u)), (2, .int (iI v)), (3, .int (iI y))] (by decide) rfl rfl (Nat.le_of_ble_eq_true rfl) ?_
  intro p e s m args below meth c C hr hk
  refine g_aload_n C d_M_most_0 rfl rfl ?_
  refine g_iload_n C d_M_most_1 rfl rfl ?_
  refine g_iload_n C d_M_most_2 rfl rfl ?_
  refine g_runI (wY_fix a ki kz kl kq) rfl (rn_V C (m_M_areTwo hu hv hG.1) 0 2 wY_0 rfl rfl kc_M_areTwo k_M_91 ki_M_areTwo kx_M_areTwo kn_M hy_M_areTwo ⟨rfl, rfl⟩ ⟨by decide, by decide⟩ ⟨Nat.le_refl _, Nat.le_refl _⟩ rfl rfl (Nat.le_of_ble_eq_true rfl) d_M_most_3) (fun r1 S1 hp1 => ?_)
  obtain ⟨hS1, hp1⟩ := hp1
  refine GG.at hS1 ?_
  refine g_if_eq (tgt := 18) C d_M_most_6 (by decide) rfl (by omega) (fun h6 => ?_) (fun h6 => ?_)
  · refine g_bipush (z := (-2)) C d_M_most_18 rfl (by decide) ?_
    refine g_iret C hr hk d_M_most_20 ⟨_, rfl, ?_⟩
    exact Or.inl ⟨by omega, rfl, rfl⟩
  · refine g_iload_n C d_M_most_9 rfl rfl ?_
    refine g_iconst (z := 0) C d_M_most_10 rfl rfl ?_
    refine g_iconst (z := 1) C d_M_most_11 rfl rfl ?_
    refine g_runI (wY_fix a ki kz kl kq) rfl (rn_S C (m_M_isIn hy (by decide) (by decide)) 3 kc_M_isIn k_M_83 ks_M_isIn kn_M hy_M_isIn ⟨rfl, rfl⟩ ⟨by decide, by decide⟩ ⟨Nat.le_refl _, Nat.le_refl _⟩ rfl rfl (Nat.le_of_ble_eq_true rfl) d_M_most_12) (fun r2 S2 hp2 => ?_)
    obtain ⟨hS2, hp2⟩ := hp2
    refine GG.at hS2 ?_
    refine g_if_ne (tgt := 21) C d_M_most_15 (by decide) rfl (by omega) (fun h15 => ?_) (fun h15 => ?_)
    · refine g_bipush (z := 20) C d_M_most_21 rfl (by decide) ?_
      refine g_nm (fun t0 e_t0 => ?_)
      refine g_istore (lv' := [(4, .int (iI t0)), (0, .ref (a 0)), (1, .int (iI u)), (2, .int (iI v)), (3, .int (iI y))]) C d_M_most_23 (by decide) rfl rfl ?_
      refine g_iconst (z := 0) C d_M_most_25 rfl rfl ?_
      refine g_nm (fun r0 e_r0 => ?_)
      refine g_istore (lv' := [(5, .int (iI r0)), (4, .int (iI t0)), (0, .ref (a 0)), (1, .int (iI u)), (2, .int (iI v)), (3, .int (iI y))]) C d_M_most_26 (by decide) rfl rfl ?_
      refine g_iconst (z := 0) C d_M_most_28 rfl rfl ?_
      refine g_nm (fun i0 e_i0 => ?_)
      refine g_istore (lv' := [(6, .int (iI i0)), (5, .int (iI r0)), (4, .int (iI t0)), (0, .ref (a 0)), (1, .int (iI u)), (2, .int (iI v)), (3, .int (iI y))]) C d_M_most_29 (by decide) rfl rfl ?_
      subst e_t0
      subst e_r0
      subst e_i0
      refine GG.lvs (lv' := [(6, .int (iI ((0 : Nat) : Int))), (5, .int (iI (di 0 (S 2) (S 3) (S 6) u v))), (4, .int (iI 20)), (0, .ref (a 0)), (1, .int (iI u)), (2, .int (iI v)), (3, .int (iI y))]) (by simp [lk, di, sm]) ?_
      exact lo_M_most hG (by omega) (by omega) C hr hk _ 0 (by omega) (Nat.le_add_left _ _)
    · refine g_bipush (z := (-2)) C d_M_most_18 rfl (by decide) ?_
      refine g_iret C hr hk d_M_most_20 ⟨_, rfl, ?_⟩
      exact Or.inl ⟨by omega, rfl, rfl⟩

