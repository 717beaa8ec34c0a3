/-! the law: rows of its own -/
def zs (xs : Nat → Int32) (z : Int) : Int := (xs z.toNat).toInt
theorem zs_r {xs : Nat → Int32} {z : Int} : r32 (zs xs z) := ⟨(xs z.toNat).le_toInt, by have := (xs z.toNat).toInt_lt; unfold zs; omega⟩
theorem and15 (x : Int32) : ∃ k : Int, (0 ≤ k ∧ k < 16) ∧ x &&& iI 15 = iI k := by
  refine ⟨((x &&& iI 15).toBitVec.toNat : Int), ⟨by omega, ?_⟩, ?_⟩
  · have h : (x &&& iI 15).toBitVec.toNat = x.toBitVec.toNat &&& 15 := rfl
    rw [h]
    have := Nat.and_le_right (n := x.toBitVec.toNat) (m := 15)
    omega
  · rw [iI_nI]
    apply Int32.toBitVec_inj.1
    show _ = BitVec.ofNat 32 _
    simp
abbrev wL (a a' : Nat → Nat) (ki kz kl kq : ClassId) : (Nat → Int → Int) × (Nat → Int → Int) → va_W := fun z => wX a ki kz kl kq z.1 ++ wY a' ki kz kl kq z.2
section LW
variable {p : Program} {l : Launch} {e : Env} {R : Room} {s : State} {m : MethodId} {args : Array Value} {below : List Frame} {meth : Method} {c : Code} {D : va_G} {A : Nat → Prop} {nL nc ns : Nat} {Q : State → Prop} {cc : ByteArray} {own : String} {lv : List (Nat × Value)} {pc n : Nat} {st st0 : List Value} {a a' : Nat → Nat} {ki kz kl kq : ClassId} {S Y : Nat → Int → Int} {b L : Nat} {xs : Nat → Int32} {av : Array Value}
theorem g_r1 {f : Int → (Nat → Int → Int) → Prop} (hn : pc + 3 = n) (hr : ∀ (H : Heap) (locs : List Loc) (ls : Array Slot), va_P D cls (wX a ki kz kl kq S) H → va_D A (wX a ki kz kl kq S) → lv_has ls nL lv → va_Run p l e R s m args below meth c H locs nc ns 0 0 (F0 m pc ls st0) st (QcW D cls (wX a ki kz kl kq) S (pI f) av) (adr (wX a ki kz kl kq S)))
    (k : ∀ (z : Int) (S' : Nat → Int → Int), f z S' → GG p l e R s m args below meth c D cls A nL nc ns Q (wL a a' ki kz kl kq) (S', Y) lv n (.int (iI z) :: st)) : GG p l e R s m args below meth c D cls A nL nc ns Q (wL a a' ki kz kl kq) (S, Y) lv pc st0 :=
  g_run1 (w1 := wX a ki kz kl kq) (w2 := wY a' ki kz kl kq) (wX_fix a ki kz kl kq) hn hr (fun v x' hp => by obtain ⟨z, rfl, hz⟩ := hp; exact k z x' hz)
theorem g_r2 {f : Int → (Nat → Int → Int) → Prop} (hn : pc + 3 = n) (hr : ∀ (H : Heap) (locs : List Loc) (ls : Array Slot), va_P D cls (wY a' ki kz kl kq Y) H → va_D A (wY a' ki kz kl kq Y) → lv_has ls nL lv → va_Run p l e R s m args below meth c H locs nc ns 0 0 (F0 m pc ls st0) st (QcW D cls (wY a' ki kz kl kq) Y (pI f) av) (adr (wY a' ki kz kl kq Y)))
    (k : ∀ (z : Int) (Y' : Nat → Int → Int), f z Y' → GG p l e R s m args below meth c D cls A nL nc ns Q (wL a a' ki kz kl kq) (S, Y') lv n (.int (iI z) :: st)) : GG p l e R s m args below meth c D cls A nL nc ns Q (wL a a' ki kz kl kq) (S, Y) lv pc st0 :=
  g_run2 (w1 := wX a ki kz kl kq) (w2 := wY a' ki kz kl kq) (wY_fix a' ki kz kl kq) hn hr (fun v x' hp => by obtain ⟨z, rfl, hz⟩ := hp; exact k z x' hz)
theorem g_sld {τ : Type} {w : τ → va_W} {x : τ} {tys : List (ClassId × FieldType)} (C : CX p s m args c cc nL own TT D cls tys) (hX : va_X b L xs s s.heap) (hbl : b < s.heap.size) (hbA : ¬ A b) {z : Int} (h0 : 0 ≤ z) (h1 : z < L) (hL : L ≤ 2560) (hd : decode cc pc = .ok (.iaload, 1)) (hn : pc + 1 = n) (k : GG p l e R s m args below meth c D cls A nL nc ns Q w x lv n (.int (iI (zs xs z)) :: st)) : GG p l e R s m args below meth c D cls A nL nc ns Q w x lv pc (.int (iI z) :: .ref b :: st) := by
  subst hn
  intro H locs ls hP hD hS hl
  refine va_sld C.1 C.2.1 hX hbl hbA hS (iI_in h0 h1 (by omega)) hd ?_
  rw [iI_cl h0 (by omega), show xs z.toNat = iI (zs xs z) from (Int32.ofInt_toInt _).symm]
  exact k H locs ls hP hD hS hl
theorem g_slen {τ : Type} {w : τ → va_W} {x : τ} {tys : List (ClassId × FieldType)} (C : CX p s m args c cc nL own TT D cls tys) (hX : va_X b L xs s s.heap) (hbl : b < s.heap.size) (hbA : ¬ A b) (hd : decode cc pc = .ok (.arraylength, 1)) (hn : pc + 1 = n) (k : GG p l e R s m args below meth c D cls A nL nc ns Q w x lv n (.int (iI (L : Int)) :: st)) : GG p l e R s m args below meth c D cls A nL nc ns Q w x lv pc (.ref b :: st) := by
  subst hn
  intro H locs ls hP hD hS hl
  refine va_slen C.1 C.2.1 hX hbl hbA hS hd ?_
  have h := k H locs ls hP hD hS hl
  rw [iI_nI] at h
  exact h
theorem g_same {τ : Type} {w : τ → va_W} {x : τ} {tys : List (ClassId × FieldType)} (C : CX p s m args c cc nL own TT D cls tys) {z y : Int} {off : Int} {tgt : Nat} (hzy : z = y) (hd : decode cc pc = .ok (.if_icmp .eq off, 3)) (ht : (pc : Int) + off = (tgt : Int)) (k : GG p l e R s m args below meth c D cls A nL nc ns Q w x lv tgt st) : GG p l e R s m args below meth c D cls A nL nc ns Q w x lv pc (.int (iI y) :: .int (iI z) :: st) := by
  subst hzy
  intro H locs ls hP hD hS hl
  exact lv_icmp_eq C.1 C.2.1 hd ht (fun _ => k H locs ls hP hD hS hl) (fun q => absurd rfl q)
end LW
theorem REL.P {S Y : Nat → Int → Int} (h : REL S Y) : ∃ P, ((S 31 0 = 0 ∧ Y 14 0 = 0) ∨ (P ≠ [] ∧ ok5 P ∧ TL S P (S 32 0) (S 33 0) ∧ TLY Y P (S 32 0) (S 33 0))) ∧ TY Y P := by
  rcases h.2.2.2.1 with g | ⟨P, p1, p2, p3, p4⟩
  · exact ⟨[], Or.inl g, Or.inl g.2⟩
  · exact ⟨P, Or.inr ⟨p1, p2, p3, p4⟩, Or.inr ⟨p4.1, p4.2.2.2.1, p4.2.2.2.2, p2⟩⟩
theorem REL.h31 {S Y : Nat → Int → Int} (h : REL S Y) : (0 ≤ S 31 0 ∧ S 31 0 ≤ 7) ∧ (Y 14 0 = 0 ∨ Y 14 0 = 1) := by
  rcases h.2.2.2.1 with g | ⟨P, p1, p2, p3, p4⟩
  · exact ⟨by omega, Or.inl g.2⟩
  · have := p3.1
    have := p2.1
    exact ⟨by omega, Or.inr p4.1⟩
theorem REL.h36 {S Y : Nat → Int → Int} (h : REL S Y) : (0 ≤ S 36 0 ∧ S 36 0 ≤ 1458) ∧ (0 ≤ Y 19 0 ∧ Y 19 0 ≤ 4000) := by
  obtain ⟨B, b1, b2, b3⟩ := h.2.2.2.2
  have := b2.1
  have := b3.1
  omega

set_option maxRecDepth 100000 in
set_option maxHeartbeats 4000000 in
theorem law_clear {p : Program} {l : Launch} {e : Env} {s : State} {m : MethodId} {below : List Frame} {meth : Method} {c : Code} {D : va_G} {A : Nat → Prop} {Q : State → Prop} {a a' : Nat → Nat} {ki kz kl kq : ClassId} {S Y : Nat → Int → Int} {b L : Nat} {xs : Nat → Int32} {i : Int} (C : CX p s m #[Value.ref b] c b_L_law 4 "NextPathsLaw" TT D cls (tyz ki kz kl kq)) (hX : va_X b L xs s s.heap) (hbl : b < s.heap.size) (hbA : ¬ A b) (hL : L ≤ 2560) (hi0 : 0 ≤ i) (hi5 : i + 5 ≤ L) (hR : REL S Y) (hc : ∀ S' Y' : Nat → Int → Int, REL S' Y' → GG p l e room_1 s m #[Value.ref b] below meth c D cls A 4 600000 7302250 Q (wL a a' ki kz kl kq) (S', Y') [(3, .int (iI i)), (0, .ref b), (1, .ref (a 0)), (2, .ref (a' 0))] 666 []) : GG p l e room_1 s m #[Value.ref b] below meth c D cls A 4 600000 7302250 Q (wL a a' ki kz kl kq) (S, Y) [(3, .int (iI i)), (0, .ref b), (1, .ref (a 0)), (2, .ref (a' 0))] 112 [] := by
  refine g_aload_n C d_L_law_112 rfl rfl ?_
  refine g_r1 rfl (rn_V C (m_N_clear) 0 0 wX_0 rfl rfl kc_N_clear k_L_13 ki_N_clear kx_N_clear kn_N hy_N_clear ⟨rfl, rfl⟩ ⟨by decide, by decide⟩ ⟨Nat.le_refl _, Nat.le_refl _⟩ rfl rfl (Nat.le_of_ble_eq_true rfl) d_L_law_113) (fun r1 S1 h1 => ?_)
  refine g_aload_n C d_L_law_116 rfl rfl ?_
  refine g_r2 rfl (rn_V C (m_M_clear) 0 0 wY_0 rfl rfl kc_M_clear k_L_17 ki_M_clear kx_M_clear kn_M hy_M_clear ⟨rfl, rfl⟩ ⟨by decide, by decide⟩ ⟨Nat.le_refl _, Nat.le_refl _⟩ rfl rfl (Nat.le_of_ble_eq_true rfl) d_L_law_117) (fun r2 Y1 h2 => ?_)
  obtain ⟨h12, hR2⟩ := e_clear hR h1 h2
  refine g_same (tgt := 666) C h12 d_L_law_120 (by decide) ?_
  exact hc S1 Y1 hR2

set_option maxRecDepth 100000 in
set_option maxHeartbeats 4000000 in
theorem law_node {p : Program} {l : Launch} {e : Env} {s : State} {m : MethodId} {below : List Frame} {meth : Method} {c : Code} {D : va_G} {A : Nat → Prop} {Q : State → Prop} {a a' : Nat → Nat} {ki kz kl kq : ClassId} {S Y : Nat → Int → Int} {b L : Nat} {xs : Nat → Int32} {i : Int} (C : CX p s m #[Value.ref b] c b_L_law 4 "NextPathsLaw" TT D cls (tyz ki kz kl kq)) (hX : va_X b L xs s s.heap) (hbl : b < s.heap.size) (hbA : ¬ A b) (hL : L ≤ 2560) (hi0 : 0 ≤ i) (hi5 : i + 5 ≤ L) (hR : REL S Y) (hc : ∀ S' Y' : Nat → Int → Int, REL S' Y' → GG p l e room_1 s m #[Value.ref b] below meth c D cls A 4 600000 7302250 Q (wL a a' ki kz kl kq) (S', Y') [(3, .int (iI i)), (0, .ref b), (1, .ref (a 0)), (2, .ref (a' 0))] 666 []) : GG p l e room_1 s m #[Value.ref b] below meth c D cls A 4 600000 7302250 Q (wL a a' ki kz kl kq) (S, Y) [(3, .int (iI i)), (0, .ref b), (1, .ref (a 0)), (2, .ref (a' 0))] 125 [] := by
  refine g_aload_n C d_L_law_125 rfl rfl ?_
  refine g_r1 rfl (rn_V C (m_N_node hR.2.1.1) 0 0 wX_0 rfl rfl kc_N_node k_L_18 ki_N_node kx_N_node kn_N hy_N_node ⟨rfl, rfl⟩ ⟨by decide, by decide⟩ ⟨Nat.le_refl _, Nat.le_refl _⟩ rfl rfl (Nat.le_of_ble_eq_true rfl) d_L_law_126) (fun r1 S1 h1 => ?_)
  refine g_aload_n C d_L_law_129 rfl rfl ?_
  refine g_r2 rfl (rn_V C (m_M_node hR.gj.1) 0 0 wY_0 rfl rfl kc_M_node k_L_21 ki_M_node kx_M_node kn_M hy_M_node ⟨rfl, rfl⟩ ⟨by decide, by decide⟩ ⟨Nat.le_refl _, Nat.le_refl _⟩ rfl rfl (Nat.le_of_ble_eq_true rfl) d_L_law_130) (fun r2 Y1 h2 => ?_)
  obtain ⟨h12, hR2⟩ := e_node hR h1 h2
  refine g_same (tgt := 666) C h12 d_L_law_133 (by decide) ?_
  exact hc S1 Y1 hR2

set_option maxRecDepth 100000 in
set_option maxHeartbeats 4000000 in
theorem law_arc {p : Program} {l : Launch} {e : Env} {s : State} {m : MethodId} {below : List Frame} {meth : Method} {c : Code} {D : va_G} {A : Nat → Prop} {Q : State → Prop} {a a' : Nat → Nat} {ki kz kl kq : ClassId} {S Y : Nat → Int → Int} {b L : Nat} {xs : Nat → Int32} {i : Int} (C : CX p s m #[Value.ref b] c b_L_law 4 "NextPathsLaw" TT D cls (tyz ki kz kl kq)) (hX : va_X b L xs s s.heap) (hbl : b < s.heap.size) (hbA : ¬ A b) (hL : L ≤ 2560) (hi0 : 0 ≤ i) (hi5 : i + 5 ≤ L) (hR : REL S Y) (hc : ∀ S' Y' : Nat → Int → Int, REL S' Y' → GG p l e room_1 s m #[Value.ref b] below meth c D cls A 4 600000 7302250 Q (wL a a' ki kz kl kq) (S', Y') [(3, .int (iI i)), (0, .ref b), (1, .ref (a 0)), (2, .ref (a' 0))] 666 []) : GG p l e room_1 s m #[Value.ref b] below meth c D cls A 4 600000 7302250 Q (wL a a' ki kz kl kq) (S, Y) [(3, .int (iI i)), (0, .ref b), (1, .ref (a 0)), (2, .ref (a' 0))] 138 [] := by
  refine g_aload_n C d_L_law_138 rfl rfl ?_
  refine g_aload_n C d_L_law_139 rfl rfl ?_
  refine g_iload_n C d_L_law_140 rfl rfl ?_
  refine g_iconst (z := 1) C d_L_law_141 rfl rfl ?_
  refine g_iadd C d_L_law_142 rfl rfl ?_
  refine g_sld C hX hbl hbA (by omega) (by omega) hL d_L_law_143 rfl ?_
  refine g_aload_n C d_L_law_144 rfl rfl ?_
  refine g_iload_n C d_L_law_145 rfl rfl ?_
  refine g_iconst (z := 2) C d_L_law_146 rfl rfl ?_
  refine g_iadd C d_L_law_147 rfl rfl ?_
  refine g_sld C hX hbl hbA (by omega) (by omega) hL d_L_law_148 rfl ?_
  refine g_aload_n C d_L_law_149 rfl rfl ?_
  refine g_iload_n C d_L_law_150 rfl rfl ?_
  refine g_iconst (z := 3) C d_L_law_151 rfl rfl ?_
  refine g_iadd C d_L_law_152 rfl rfl ?_
  refine g_sld C hX hbl hbA (by omega) (by omega) hL d_L_law_153 rfl ?_
  refine g_aload_n C d_L_law_154 rfl rfl ?_
  refine g_iload_n C d_L_law_155 rfl rfl ?_
  refine g_iconst (z := 4) C d_L_law_156 rfl rfl ?_
  refine g_iadd C d_L_law_157 rfl rfl ?_
  refine g_sld C hX hbl hbA (by omega) (by omega) hL d_L_law_158 rfl ?_
  refine g_r1 rfl (rn_V C (m_N_arc hR.2.1 zs_r zs_r zs_r zs_r) 0 4 wX_0 rfl rfl kc_N_arc k_L_22 ki_N_arc kx_N_arc kn_N hy_N_arc ⟨rfl, rfl⟩ ⟨by decide, by decide⟩ ⟨Nat.le_refl _, Nat.le_refl _⟩ rfl rfl (Nat.le_of_ble_eq_true rfl) d_L_law_159) (fun r1 S1 h1 => ?_)
  refine g_aload_n C d_L_law_162 rfl rfl ?_
  refine g_aload_n C d_L_law_163 rfl rfl ?_
  refine g_iload_n C d_L_law_164 rfl rfl ?_
  refine g_iconst (z := 1) C d_L_law_165 rfl rfl ?_
  refine g_iadd C d_L_law_166 rfl rfl ?_
  refine g_sld C hX hbl hbA (by omega) (by omega) hL d_L_law_167 rfl ?_
  refine g_aload_n C d_L_law_168 rfl rfl ?_
  refine g_iload_n C d_L_law_169 rfl rfl ?_
  refine g_iconst (z := 2) C d_L_law_170 rfl rfl ?_
  refine g_iadd C d_L_law_171 rfl rfl ?_
  refine g_sld C hX hbl hbA (by omega) (by omega) hL d_L_law_172 rfl ?_
  refine g_aload_n C d_L_law_173 rfl rfl ?_
  refine g_iload_n C d_L_law_174 rfl rfl ?_
  refine g_iconst (z := 3) C d_L_law_175 rfl rfl ?_
  refine g_iadd C d_L_law_176 rfl rfl ?_
  refine g_sld C hX hbl hbA (by omega) (by omega) hL d_L_law_177 rfl ?_
  refine g_aload_n C d_L_law_178 rfl rfl ?_
  refine g_iload_n C d_L_law_179 rfl rfl ?_
  refine g_iconst (z := 4) C d_L_law_180 rfl rfl ?_
  refine g_iadd C d_L_law_181 rfl rfl ?_
  refine g_sld C hX hbl hbA (by omega) (by omega) hL d_L_law_182 rfl ?_
  refine g_r2 rfl (rn_V C (m_M_arc hR.gj zs_r zs_r zs_r zs_r) 0 4 wY_0 rfl rfl kc_M_arc k_L_26 ki_M_arc kx_M_arc kn_M hy_M_arc ⟨rfl, rfl⟩ ⟨by decide, by decide⟩ ⟨Nat.le_refl _, Nat.le_refl _⟩ rfl rfl (Nat.le_of_ble_eq_true rfl) d_L_law_183) (fun r2 Y1 h2 => ?_)
  obtain ⟨h12, hR2⟩ := e_arc hR h1 h2
  refine g_same (tgt := 666) C h12 d_L_law_186 (by decide) ?_
  exact hc S1 Y1 hR2

set_option maxRecDepth 100000 in
set_option maxHeartbeats 4000000 in
theorem law_change {p : Program} {l : Launch} {e : Env} {s : State} {m : MethodId} {below : List Frame} {meth : Method} {c : Code} {D : va_G} {A : Nat → Prop} {Q : State → Prop} {a a' : Nat → Nat} {ki kz kl kq : ClassId} {S Y : Nat → Int → Int} {b L : Nat} {xs : Nat → Int32} {i : Int} (C : CX p s m #[Value.ref b] c b_L_law 4 "NextPathsLaw" TT D cls (tyz ki kz kl kq)) (hX : va_X b L xs s s.heap) (hbl : b < s.heap.size) (hbA : ¬ A b) (hL : L ≤ 2560) (hi0 : 0 ≤ i) (hi5 : i + 5 ≤ L) (hR : REL S Y) (hc : ∀ S' Y' : Nat → Int → Int, REL S' Y' → GG p l e room_1 s m #[Value.ref b] below meth c D cls A 4 600000 7302250 Q (wL a a' ki kz kl kq) (S', Y') [(3, .int (iI i)), (0, .ref b), (1, .ref (a 0)), (2, .ref (a' 0))] 666 []) : GG p l e room_1 s m #[Value.ref b] below meth c D cls A 4 600000 7302250 Q (wL a a' ki kz kl kq) (S, Y) [(3, .int (iI i)), (0, .ref b), (1, .ref (a 0)), (2, .ref (a' 0))] 191 [] := by
  refine g_aload_n C d_L_law_191 rfl rfl ?_
  refine g_aload_n C d_L_law_192 rfl rfl ?_
  refine g_iload_n C d_L_law_193 rfl rfl ?_
  refine g_iconst (z := 1) C d_L_law_194 rfl rfl ?_
  refine g_iadd C d_L_law_195 rfl rfl ?_
  refine g_sld C hX hbl hbA (by omega) (by omega) hL d_L_law_196 rfl ?_
  refine g_aload_n C d_L_law_197 rfl rfl ?_
  refine g_iload_n C d_L_law_198 rfl rfl ?_
  refine g_iconst (z := 2) C d_L_law_199 rfl rfl ?_
  refine g_iadd C d_L_law_200 rfl rfl ?_
  refine g_sld C hX hbl hbA (by omega) (by omega) hL d_L_law_201 rfl ?_
  refine g_aload_n C d_L_law_202 rfl rfl ?_
  refine g_iload_n C d_L_law_203 rfl rfl ?_
  refine g_iconst (z := 3) C d_L_law_204 rfl rfl ?_
  refine g_iadd C d_L_law_205 rfl rfl ?_
  refine g_sld C hX hbl hbA (by omega) (by omega) hL d_L_law_206 rfl ?_
  refine g_r1 rfl (rn_V C (m_N_change hR.2.1 zs_r zs_r zs_r) 0 3 wX_0 rfl rfl kc_N_change k_L_27 ki_N_change kx_N_change kn_N hy_N_change ⟨rfl, rfl⟩ ⟨by decide, by decide⟩ ⟨Nat.le_refl _, Nat.le_refl _⟩ rfl rfl (Nat.le_of_ble_eq_true rfl) d_L_law_207) (fun r1 S1 h1 => ?_)
  refine g_aload_n C d_L_law_210 rfl rfl ?_
  refine g_aload_n C d_L_law_211 rfl rfl ?_
  refine g_iload_n C d_L_law_212 rfl rfl ?_
  refine g_iconst (z := 1) C d_L_law_213 rfl rfl ?_
  refine g_iadd C d_L_law_214 rfl rfl ?_
  refine g_sld C hX hbl hbA (by omega) (by omega) hL d_L_law_215 rfl ?_
  refine g_aload_n C d_L_law_216 rfl rfl ?_
  refine g_iload_n C d_L_law_217 rfl rfl ?_
  refine g_iconst (z := 2) C d_L_law_218 rfl rfl ?_
  refine g_iadd C d_L_law_219 rfl rfl ?_
  refine g_sld C hX hbl hbA (by omega) (by omega) hL d_L_law_220 rfl ?_
  refine g_aload_n C d_L_law_221 rfl rfl ?_
  refine g_iload_n C d_L_law_222 rfl rfl ?_
  refine g_iconst (z := 3) C d_L_law_223 rfl rfl ?_
  refine g_iadd C d_L_law_224 rfl rfl ?_
  refine g_sld C hX hbl hbA (by omega) (by omega) hL d_L_law_225 rfl ?_
  refine g_r2 rfl (rn_V C (m_M_change hR.gj zs_r zs_r zs_r) 0 3 wY_0 rfl rfl kc_M_change k_L_31 ki_M_change kx_M_change kn_M hy_M_change ⟨rfl, rfl⟩ ⟨by decide, by decide⟩ ⟨Nat.le_refl _, Nat.le_refl _⟩ rfl rfl (Nat.le_of_ble_eq_true rfl) d_L_law_226) (fun r2 Y1 h2 => ?_)
  obtain ⟨h12, hR2⟩ := e_change hR h1 h2
  refine g_same (tgt := 666) C h12 d_L_law_229 (by decide) ?_
  exact hc S1 Y1 hR2

set_option maxRecDepth 100000 in
set_option maxHeartbeats 4000000 in
theorem law_shut {p : Program} {l : Launch} {e : Env} {s : State} {m : MethodId} {below : List Frame} {meth : Method} {c : Code} {D : va_G} {A : Nat → Prop} {Q : State → Prop} {a a' : Nat → Nat} {ki kz kl kq : ClassId} {S Y : Nat → Int → Int} {b L : Nat} {xs : Nat → Int32} {i : Int} (C : CX p s m #[Value.ref b] c b_L_law 4 "NextPathsLaw" TT D cls (tyz ki kz kl kq)) (hX : va_X b L xs s s.heap) (hbl : b < s.heap.size) (hbA : ¬ A b) (hL : L ≤ 2560) (hi0 : 0 ≤ i) (hi5 : i + 5 ≤ L) (hR : REL S Y) (hc : ∀ S' Y' : Nat → Int → Int, REL S' Y' → GG p l e room_1 s m #[Value.ref b] below meth c D cls A 4 600000 7302250 Q (wL a a' ki kz kl kq) (S', Y') [(3, .int (iI i)), (0, .ref b), (1, .ref (a 0)), (2, .ref (a' 0))] 666 []) : GG p l e room_1 s m #[Value.ref b] below meth c D cls A 4 600000 7302250 Q (wL a a' ki kz kl kq) (S, Y) [(3, .int (iI i)), (0, .ref b), (1, .ref (a 0)), (2, .ref (a' 0))] 234 [] := by
  refine g_aload_n C d_L_law_234 rfl rfl ?_
  refine g_aload_n C d_L_law_235 rfl rfl ?_
  refine g_iload_n C d_L_law_236 rfl rfl ?_
  refine g_iconst (z := 1) C d_L_law_237 rfl rfl ?_
  refine g_iadd C d_L_law_238 rfl rfl ?_
  refine g_sld C hX hbl hbA (by omega) (by omega) hL d_L_law_239 rfl ?_
  refine g_aload_n C d_L_law_240 rfl rfl ?_
  refine g_iload_n C d_L_law_241 rfl rfl ?_
  refine g_iconst (z := 2) C d_L_law_242 rfl rfl ?_
  refine g_iadd C d_L_law_243 rfl rfl ?_
  refine g_sld C hX hbl hbA (by omega) (by omega) hL d_L_law_244 rfl ?_
  refine g_if_eq (tgt := 252) C d_L_law_245 (by decide) rfl zs_r (fun hz => ?_) (fun hz => ?_)
  · refine g_iconst (z := 0) C d_L_law_252 rfl rfl ?_
    refine g_r1 rfl (rn_V C (m_N_shut hR.2.1 zs_r (by decide)) 0 2 wX_0 rfl rfl kc_N_shut k_L_32 ki_N_shut kx_N_shut kn_N hy_N_shut ⟨rfl, rfl⟩ ⟨by decide, by decide⟩ ⟨Nat.le_refl _, Nat.le_refl _⟩ rfl rfl (Nat.le_of_ble_eq_true rfl) d_L_law_253) (fun r1 S1 h1 => ?_)
    refine g_aload_n C d_L_law_256 rfl rfl ?_
    refine g_aload_n C d_L_law_257 rfl rfl ?_
    refine g_iload_n C d_L_law_258 rfl rfl ?_
    refine g_iconst (z := 1) C d_L_law_259 rfl rfl ?_
    refine g_iadd C d_L_law_260 rfl rfl ?_
    refine g_sld C hX hbl hbA (by omega) (by omega) hL d_L_law_261 rfl ?_
    refine g_aload_n C d_L_law_262 rfl rfl ?_
    refine g_iload_n C d_L_law_263 rfl rfl ?_
    refine g_iconst (z := 2) C d_L_law_264 rfl rfl ?_
    refine g_iadd C d_L_law_265 rfl rfl ?_
    refine g_sld C hX hbl hbA (by omega) (by omega) hL d_L_law_266 rfl ?_
    refine g_if_eq (tgt := 274) C d_L_law_267 (by decide) rfl zs_r (fun hz2 => ?_) (fun hz2 => ?_)
    · refine g_iconst (z := 0) C d_L_law_274 rfl rfl ?_
      refine g_r2 rfl (rn_V C (m_M_shut hR.gj zs_r (by decide)) 0 2 wY_0 rfl rfl kc_M_shut k_L_36 ki_M_shut kx_M_shut kn_M hy_M_shut ⟨rfl, rfl⟩ ⟨by decide, by decide⟩ ⟨Nat.le_refl _, Nat.le_refl _⟩ rfl rfl (Nat.le_of_ble_eq_true rfl) d_L_law_275) (fun r2 Y1 h2 => ?_)
      obtain ⟨h12, hR2⟩ := e_shut hR (by decide) h1 h2
      refine g_same (tgt := 666) C h12 d_L_law_278 (by decide) ?_
      exact hc S1 Y1 hR2
    · exact absurd hz hz2
  · refine g_iconst (z := 1) C d_L_law_248 rfl rfl ?_
    refine g_goto (tgt := 253) C d_L_law_249 (by decide) ?_
    refine g_r1 rfl (rn_V C (m_N_shut hR.2.1 zs_r (by decide)) 0 2 wX_0 rfl rfl kc_N_shut k_L_32 ki_N_shut kx_N_shut kn_N hy_N_shut ⟨rfl, rfl⟩ ⟨by decide, by decide⟩ ⟨Nat.le_refl _, Nat.le_refl _⟩ rfl rfl (Nat.le_of_ble_eq_true rfl) d_L_law_253) (fun r1 S1 h1 => ?_)
    refine g_aload_n C d_L_law_256 rfl rfl ?_
    refine g_aload_n C d_L_law_257 rfl rfl ?_
    refine g_iload_n C d_L_law_258 rfl rfl ?_
    refine g_iconst (z := 1) C d_L_law_259 rfl rfl ?_
    refine g_iadd C d_L_law_260 rfl rfl ?_
    refine g_sld C hX hbl hbA (by omega) (by omega) hL d_L_law_261 rfl ?_
    refine g_aload_n C d_L_law_262 rfl rfl ?_
    refine g_iload_n C d_L_law_263 rfl rfl ?_
    refine g_iconst (z := 2) C d_L_law_264 rfl rfl ?_
    refine g_iadd C d_L_law_265 rfl rfl ?_
    refine g_sld C hX hbl hbA (by omega) (by omega) hL d_L_law_266 rfl ?_
    refine g_if_eq (tgt := 274) C d_L_law_267 (by decide) rfl zs_r (fun hz2 => ?_) (fun hz2 => ?_)
    · exact absurd hz2 hz
    · refine g_iconst (z := 1) C d_L_law_270 rfl rfl ?_
      refine g_goto (tgt := 275) C d_L_law_271 (by decide) ?_
      refine g_r2 rfl (rn_V C (m_M_shut hR.gj zs_r (by decide)) 0 2 wY_0 rfl rfl kc_M_shut k_L_36 ki_M_shut kx_M_shut kn_M hy_M_shut ⟨rfl, rfl⟩ ⟨by decide, by decide⟩ ⟨Nat.le_refl _, Nat.le_refl _⟩ rfl rfl (Nat.le_of_ble_eq_true rfl) d_L_law_275) (fun r2 Y1 h2 => ?_)
      obtain ⟨h12, hR2⟩ := e_shut hR (by decide) h1 h2
      refine g_same (tgt := 666) C h12 d_L_law_278 (by decide) ?_
      exact hc S1 Y1 hR2

set_option maxRecDepth 100000 in
set_option maxHeartbeats 4000000 in
theorem law_next {p : Program} {l : Launch} {e : Env} {s : State} {m : MethodId} {below : List Frame} {meth : Method} {c : Code} {D : va_G} {A : Nat → Prop} {Q : State → Prop} {a a' : Nat → Nat} {ki kz kl kq : ClassId} {S Y : Nat → Int → Int} {b L : Nat} {xs : Nat → Int32} {i : Int} (C : CX p s m #[Value.ref b] c b_L_law 4 "NextPathsLaw" TT D cls (tyz ki kz kl kq)) (hX : va_X b L xs s s.heap) (hbl : b < s.heap.size) (hbA : ¬ A b) (hL : L ≤ 2560) (hi0 : 0 ≤ i) (hi5 : i + 5 ≤ L) (hR : REL S Y) (hc : ∀ S' Y' : Nat → Int → Int, REL S' Y' → GG p l e room_1 s m #[Value.ref b] below meth c D cls A 4 600000 7302250 Q (wL a a' ki kz kl kq) (S', Y') [(3, .int (iI i)), (0, .ref b), (1, .ref (a 0)), (2, .ref (a' 0))] 666 []) : GG p l e room_1 s m #[Value.ref b] below meth c D cls A 4 600000 7302250 Q (wL a a' ki kz kl kq) (S, Y) [(3, .int (iI i)), (0, .ref b), (1, .ref (a 0)), (2, .ref (a' 0))] 283 [] := by
  refine g_aload_n C d_L_law_283 rfl rfl ?_
  refine g_aload_n C d_L_law_284 rfl rfl ?_
  refine g_iload_n C d_L_law_285 rfl rfl ?_
  refine g_iconst (z := 1) C d_L_law_286 rfl rfl ?_
  refine g_iadd C d_L_law_287 rfl rfl ?_
  refine g_sld C hX hbl hbA (by omega) (by omega) hL d_L_law_288 rfl ?_
  refine g_aload_n C d_L_law_289 rfl rfl ?_
  refine g_iload_n C d_L_law_290 rfl rfl ?_
  refine g_iconst (z := 2) C d_L_law_291 rfl rfl ?_
  refine g_iadd C d_L_law_292 rfl rfl ?_
  refine g_sld C hX hbl hbA (by omega) (by omega) hL d_L_law_293 rfl ?_
  refine g_aload_n C d_L_law_294 rfl rfl ?_
  refine g_iload_n C d_L_law_295 rfl rfl ?_
  refine g_iconst (z := 3) C d_L_law_296 rfl rfl ?_
  refine g_iadd C d_L_law_297 rfl rfl ?_
  refine g_sld C hX hbl hbA (by omega) (by omega) hL d_L_law_298 rfl ?_
  refine g_r1 rfl (rn_V C (m_N_next hR.2.1 hR.2.2.1 zs_r zs_r zs_r) 0 3 wX_0 rfl rfl kc_N_next k_L_37 ki_N_next kx_N_next kn_N hy_N_next ⟨rfl, rfl⟩ ⟨by decide, by decide⟩ ⟨Nat.le_refl _, Nat.le_refl _⟩ rfl rfl (Nat.le_of_ble_eq_true rfl) d_L_law_299) (fun r1 S1 h1 => ?_)
  refine g_aload_n C d_L_law_302 rfl rfl ?_
  refine g_aload_n C d_L_law_303 rfl rfl ?_
  refine g_iload_n C d_L_law_304 rfl rfl ?_
  refine g_iconst (z := 1) C d_L_law_305 rfl rfl ?_
  refine g_iadd C d_L_law_306 rfl rfl ?_
  refine g_sld C hX hbl hbA (by omega) (by omega) hL d_L_law_307 rfl ?_
  refine g_aload_n C d_L_law_308 rfl rfl ?_
  refine g_iload_n C d_L_law_309 rfl rfl ?_
  refine g_iconst (z := 2) C d_L_law_310 rfl rfl ?_
  refine g_iadd C d_L_law_311 rfl rfl ?_
  refine g_sld C hX hbl hbA (by omega) (by omega) hL d_L_law_312 rfl ?_
  refine g_aload_n C d_L_law_313 rfl rfl ?_
  refine g_iload_n C d_L_law_314 rfl rfl ?_
  refine g_iconst (z := 3) C d_L_law_315 rfl rfl ?_
  refine g_iadd C d_L_law_316 rfl rfl ?_
  refine g_sld C hX hbl hbA (by omega) (by omega) hL d_L_law_317 rfl ?_
  refine g_r2 rfl (rn_V C (m_M_next hR.gj zs_r zs_r zs_r) 0 3 wY_0 rfl rfl kc_M_next k_L_40 ki_M_next kx_M_next kn_M hy_M_next ⟨rfl, rfl⟩ ⟨by decide, by decide⟩ ⟨Nat.le_refl _, Nat.le_refl _⟩ rfl rfl (Nat.le_of_ble_eq_true rfl) d_L_law_318) (fun r2 Y1 h2 => ?_)
  obtain ⟨h12, hR2⟩ := e_next hR h1 h2
  refine g_same (tgt := 666) C h12 d_L_law_321 (by decide) ?_
  exact hc S1 Y1 hR2

set_option maxRecDepth 100000 in
set_option maxHeartbeats 4000000 in
theorem law_count {p : Program} {l : Launch} {e : Env} {s : State} {m : MethodId} {below : List Frame} {meth : Method} {c : Code} {D : va_G} {A : Nat → Prop} {Q : State → Prop} {a a' : Nat → Nat} {ki kz kl kq : ClassId} {S Y : Nat → Int → Int} {b L : Nat} {xs : Nat → Int32} {i : Int} (C : CX p s m #[Value.ref b] c b_L_law 4 "NextPathsLaw" TT D cls (tyz ki kz kl kq)) (hX : va_X b L xs s s.heap) (hbl : b < s.heap.size) (hbA : ¬ A b) (hL : L ≤ 2560) (hi0 : 0 ≤ i) (hi5 : i + 5 ≤ L) (hR : REL S Y) (hc : ∀ S' Y' : Nat → Int → Int, REL S' Y' → GG p l e room_1 s m #[Value.ref b] below meth c D cls A 4 600000 7302250 Q (wL a a' ki kz kl kq) (S', Y') [(3, .int (iI i)), (0, .ref b), (1, .ref (a 0)), (2, .ref (a' 0))] 666 []) : GG p l e room_1 s m #[Value.ref b] below meth c D cls A 4 600000 7302250 Q (wL a a' ki kz kl kq) (S, Y) [(3, .int (iI i)), (0, .ref b), (1, .ref (a 0)), (2, .ref (a' 0))] 326 [] := by
  refine g_aload_n C d_L_law_326 rfl rfl ?_
  refine g_aload_n C d_L_law_327 rfl rfl ?_
  refine g_iload_n C d_L_law_328 rfl rfl ?_
  refine g_iconst (z := 1) C d_L_law_329 rfl rfl ?_
  refine g_iadd C d_L_law_330 rfl rfl ?_
  refine g_sld C hX hbl hbA (by omega) (by omega) hL d_L_law_331 rfl ?_
  refine g_aload_n C d_L_law_332 rfl rfl ?_
  refine g_iload_n C d_L_law_333 rfl rfl ?_
  refine g_iconst (z := 2) C d_L_law_334 rfl rfl ?_
  refine g_iadd C d_L_law_335 rfl rfl ?_
  refine g_sld C hX hbl hbA (by omega) (by omega) hL d_L_law_336 rfl ?_
  refine g_r1 rfl (rn_V C (m_N_count hR.2.1 hR.2.2.1 zs_r zs_r) 0 2 wX_0 rfl rfl kc_N_count k_L_41 ki_N_count kx_N_count kn_N hy_N_count ⟨rfl, rfl⟩ ⟨by decide, by decide⟩ ⟨Nat.le_refl _, Nat.le_refl _⟩ rfl rfl (Nat.le_of_ble_eq_true rfl) d_L_law_337) (fun r1 S1 h1 => ?_)
  refine g_aload_n C d_L_law_340 rfl rfl ?_
  refine g_aload_n C d_L_law_341 rfl rfl ?_
  refine g_iload_n C d_L_law_342 rfl rfl ?_
  refine g_iconst (z := 1) C d_L_law_343 rfl rfl ?_
  refine g_iadd C d_L_law_344 rfl rfl ?_
  refine g_sld C hX hbl hbA (by omega) (by omega) hL d_L_law_345 rfl ?_
  refine g_aload_n C d_L_law_346 rfl rfl ?_
  refine g_iload_n C d_L_law_347 rfl rfl ?_
  refine g_iconst (z := 2) C d_L_law_348 rfl rfl ?_
  refine g_iadd C d_L_law_349 rfl rfl ?_
  refine g_sld C hX hbl hbA (by omega) (by omega) hL d_L_law_350 rfl ?_
  refine g_r2 rfl (rn_V C (m_M_count hR.gj zs_r zs_r) 0 2 wY_0 rfl rfl kc_M_count k_L_45 ki_M_count kx_M_count kn_M hy_M_count ⟨rfl, rfl⟩ ⟨by decide, by decide⟩ ⟨Nat.le_refl _, Nat.le_refl _⟩ rfl rfl (Nat.le_of_ble_eq_true rfl) d_L_law_351) (fun r2 Y1 h2 => ?_)
  obtain ⟨h12, hR2⟩ := e_count hR h1 h2
  refine g_same (tgt := 666) C h12 d_L_law_354 (by decide) ?_
  exact hc S1 Y1 hR2

set_option maxRecDepth 100000 in
set_option maxHeartbeats 4000000 in
theorem law_apart {p : Program} {l : Launch} {e : Env} {s : State} {m : MethodId} {below : List Frame} {meth : Method} {c : Code} {D : va_G} {A : Nat → Prop} {Q : State → Prop} {a a' : Nat → Nat} {ki kz kl kq : ClassId} {S Y : Nat → Int → Int} {b L : Nat} {xs : Nat → Int32} {i : Int} (C : CX p s m #[Value.ref b] c b_L_law 4 "NextPathsLaw" TT D cls (tyz ki kz kl kq)) (hX : va_X b L xs s s.heap) (hbl : b < s.heap.size) (hbA : ¬ A b) (hL : L ≤ 2560) (hi0 : 0 ≤ i) (hi5 : i + 5 ≤ L) (hR : REL S Y) (hc : ∀ S' Y' : Nat → Int → Int, REL S' Y' → GG p l e room_1 s m #[Value.ref b] below meth c D cls A 4 600000 7302250 Q (wL a a' ki kz kl kq) (S', Y') [(3, .int (iI i)), (0, .ref b), (1, .ref (a 0)), (2, .ref (a' 0))] 666 []) : GG p l e room_1 s m #[Value.ref b] below meth c D cls A 4 600000 7302250 Q (wL a a' ki kz kl kq) (S, Y) [(3, .int (iI i)), (0, .ref b), (1, .ref (a 0)), (2, .ref (a' 0))] 359 [] := by
  refine g_aload_n C d_L_law_359 rfl rfl ?_
  refine g_aload_n C d_L_law_360 rfl rfl ?_
  refine g_iload_n C d_L_law_361 rfl rfl ?_
  refine g_iconst (z := 1) C d_L_law_362 rfl rfl ?_
  refine g_iadd C d_L_law_363 rfl rfl ?_
  refine g_sld C hX hbl hbA (by omega) (by omega) hL d_L_law_364 rfl ?_
  refine g_aload_n C d_L_law_365 rfl rfl ?_
  refine g_iload_n C d_L_law_366 rfl rfl ?_
  refine g_iconst (z := 2) C d_L_law_367 rfl rfl ?_
  refine g_iadd C d_L_law_368 rfl rfl ?_
  refine g_sld C hX hbl hbA (by omega) (by omega) hL d_L_law_369 rfl ?_
  refine g_aload_n C d_L_law_370 rfl rfl ?_
  refine g_iload_n C d_L_law_371 rfl rfl ?_
  refine g_iconst (z := 3) C d_L_law_372 rfl rfl ?_
  refine g_iadd C d_L_law_373 rfl rfl ?_
  refine g_sld C hX hbl hbA (by omega) (by omega) hL d_L_law_374 rfl ?_
  refine g_aload_n C d_L_law_375 rfl rfl ?_
  refine g_iload_n C d_L_law_376 rfl rfl ?_
  refine g_iconst (z := 4) C d_L_law_377 rfl rfl ?_
  refine g_iadd C d_L_law_378 rfl rfl ?_
  refine g_sld C hX hbl hbA (by omega) (by omega) hL d_L_law_379 rfl ?_
  refine g_r1 rfl (rn_V C (m_N_apart hR.2.1 zs_r zs_r zs_r zs_r) 0 4 wX_0 rfl rfl kc_N_apart k_L_46 ki_N_apart kx_N_apart kn_N hy_N_apart ⟨rfl, rfl⟩ ⟨by decide, by decide⟩ ⟨Nat.le_refl _, Nat.le_refl _⟩ rfl rfl (Nat.le_of_ble_eq_true rfl) d_L_law_380) (fun r1 S1 h1 => ?_)
  refine g_aload_n C d_L_law_383 rfl rfl ?_
  refine g_aload_n C d_L_law_384 rfl rfl ?_
  refine g_iload_n C d_L_law_385 rfl rfl ?_
  refine g_iconst (z := 1) C d_L_law_386 rfl rfl ?_
  refine g_iadd C d_L_law_387 rfl rfl ?_
  refine g_sld C hX hbl hbA (by omega) (by omega) hL d_L_law_388 rfl ?_
  refine g_aload_n C d_L_law_389 rfl rfl ?_
  refine g_iload_n C d_L_law_390 rfl rfl ?_
  refine g_iconst (z := 2) C d_L_law_391 rfl rfl ?_
  refine g_iadd C d_L_law_392 rfl rfl ?_
  refine g_sld C hX hbl hbA (by omega) (by omega) hL d_L_law_393 rfl ?_
  refine g_aload_n C d_L_law_394 rfl rfl ?_
  refine g_iload_n C d_L_law_395 rfl rfl ?_
  refine g_iconst (z := 3) C d_L_law_396 rfl rfl ?_
  refine g_iadd C d_L_law_397 rfl rfl ?_
  refine g_sld C hX hbl hbA (by omega) (by omega) hL d_L_law_398 rfl ?_
  refine g_aload_n C d_L_law_399 rfl rfl ?_
  refine g_iload_n C d_L_law_400 rfl rfl ?_
  refine g_iconst (z := 4) C d_L_law_401 rfl rfl ?_
  refine g_iadd C d_L_law_402 rfl rfl ?_
  refine g_sld C hX hbl hbA (by omega) (by omega) hL d_L_law_403 rfl ?_
  refine g_r2 rfl (rn_V C (m_M_apart hR.gj zs_r zs_r zs_r zs_r) 0 4 wY_0 rfl rfl kc_M_apart k_L_49 ki_M_apart kx_M_apart kn_M hy_M_apart ⟨rfl, rfl⟩ ⟨by decide, by decide⟩ ⟨Nat.le_refl _, Nat.le_refl _⟩ rfl rfl (Nat.le_of_ble_eq_true rfl) d_L_law_404) (fun r2 Y1 h2 => ?_)
  obtain ⟨h12, hR2⟩ := e_apart hR h1 h2
  refine g_same (tgt := 666) C h12 d_L_law_407 (by decide) ?_
  exact hc S1 Y1 hR2

set_option maxRecDepth 100000 in
set_option maxHeartbeats 4000000 in
theorem law_most {p : Program} {l : Launch} {e : Env} {s : State} {m : MethodId} {below : List Frame} {meth : Method} {c : Code} {D : va_G} {A : Nat → Prop} {Q : State → Prop} {a a' : Nat → Nat} {ki kz kl kq : ClassId} {S Y : Nat → Int → Int} {b L : Nat} {xs : Nat → Int32} {i : Int} (C : CX p s m #[Value.ref b] c b_L_law 4 "NextPathsLaw" TT D cls (tyz ki kz kl kq)) (hX : va_X b L xs s s.heap) (hbl : b < s.heap.size) (hbA : ¬ A b) (hL : L ≤ 2560) (hi0 : 0 ≤ i) (hi5 : i + 5 ≤ L) (hR : REL S Y) (hc : ∀ S' Y' : Nat → Int → Int, REL S' Y' → GG p l e room_1 s m #[Value.ref b] below meth c D cls A 4 600000 7302250 Q (wL a a' ki kz kl kq) (S', Y') [(3, .int (iI i)), (0, .ref b), (1, .ref (a 0)), (2, .ref (a' 0))] 666 []) : GG p l e room_1 s m #[Value.ref b] below meth c D cls A 4 600000 7302250 Q (wL a a' ki kz kl kq) (S, Y) [(3, .int (iI i)), (0, .ref b), (1, .ref (a 0)), (2, .ref (a' 0))] 412 [] := by
  refine g_aload_n C d_L_law_412 rfl rfl ?_
  refine g_aload_n C d_L_law_413 rfl rfl ?_
  refine g_iload_n C d_L_law_414 rfl rfl ?_
  refine g_iconst (z := 1) C d_L_law_415 rfl rfl ?_
  refine g_iadd C d_L_law_416 rfl rfl ?_
  refine g_sld C hX hbl hbA (by omega) (by omega) hL d_L_law_417 rfl ?_
  refine g_aload_n C d_L_law_418 rfl rfl ?_
  refine g_iload_n C d_L_law_419 rfl rfl ?_
  refine g_iconst (z := 2) C d_L_law_420 rfl rfl ?_
  refine g_iadd C d_L_law_421 rfl rfl ?_
  refine g_sld C hX hbl hbA (by omega) (by omega) hL d_L_law_422 rfl ?_
  refine g_aload_n C d_L_law_423 rfl rfl ?_
  refine g_iload_n C d_L_law_424 rfl rfl ?_
  refine g_iconst (z := 3) C d_L_law_425 rfl rfl ?_
  refine g_iadd C d_L_law_426 rfl rfl ?_
  refine g_sld C hX hbl hbA (by omega) (by omega) hL d_L_law_427 rfl ?_
  refine g_r1 rfl (rn_V C (m_N_most hR.2.1 zs_r zs_r zs_r) 0 3 wX_0 rfl rfl kc_N_most k_L_50 ki_N_most kx_N_most kn_N hy_N_most ⟨rfl, rfl⟩ ⟨by decide, by decide⟩ ⟨Nat.le_refl _, Nat.le_refl _⟩ rfl rfl (Nat.le_of_ble_eq_true rfl) d_L_law_428) (fun r1 S1 h1 => ?_)
  refine g_aload_n C d_L_law_431 rfl rfl ?_
  refine g_aload_n C d_L_law_432 rfl rfl ?_
  refine g_iload_n C d_L_law_433 rfl rfl ?_
  refine g_iconst (z := 1) C d_L_law_434 rfl rfl ?_
  refine g_iadd C d_L_law_435 rfl rfl ?_
  refine g_sld C hX hbl hbA (by omega) (by omega) hL d_L_law_436 rfl ?_
  refine g_aload_n C d_L_law_437 rfl rfl ?_
  refine g_iload_n C d_L_law_438 rfl rfl ?_
  refine g_iconst (z := 2) C d_L_law_439 rfl rfl ?_
  refine g_iadd C d_L_law_440 rfl rfl ?_
  refine g_sld C hX hbl hbA (by omega) (by omega) hL d_L_law_441 rfl ?_
  refine g_aload_n C d_L_law_442 rfl rfl ?_
  refine g_iload_n C d_L_law_443 rfl rfl ?_
  refine g_iconst (z := 3) C d_L_law_444 rfl rfl ?_
  refine g_iadd C d_L_law_445 rfl rfl ?_
  refine g_sld C hX hbl hbA (by omega) (by omega) hL d_L_law_446 rfl ?_
  refine g_r2 rfl (rn_V C (m_M_most hR.gj zs_r zs_r zs_r) 0 3 wY_0 rfl rfl kc_M_most k_L_53 ki_M_most kx_M_most kn_M hy_M_most ⟨rfl, rfl⟩ ⟨by decide, by decide⟩ ⟨Nat.le_refl _, Nat.le_refl _⟩ rfl rfl (Nat.le_of_ble_eq_true rfl) d_L_law_447) (fun r2 Y1 h2 => ?_)
  obtain ⟨h12, hR2⟩ := e_most hR h1 h2
  refine g_same (tgt := 666) C h12 d_L_law_450 (by decide) ?_
  exact hc S1 Y1 hR2

set_option maxRecDepth 100000 in
set_option maxHeartbeats 4000000 in
theorem law_within {p : Program} {l : Launch} {e : Env} {s : State} {m : MethodId} {below : List Frame} {meth : Method} {c : Code} {D : va_G} {A : Nat → Prop} {Q : State → Prop} {a a' : Nat → Nat} {ki kz kl kq : ClassId} {S Y : Nat → Int → Int} {b L : Nat} {xs : Nat → Int32} {i : Int} (C : CX p s m #[Value.ref b] c b_L_law 4 "NextPathsLaw" TT D cls (tyz ki kz kl kq)) (hX : va_X b L xs s s.heap) (hbl : b < s.heap.size) (hbA : ¬ A b) (hL : L ≤ 2560) (hi0 : 0 ≤ i) (hi5 : i + 5 ≤ L) (hR : REL S Y) (hc : ∀ S' Y' : Nat → Int → Int, REL S' Y' → GG p l e room_1 s m #[Value.ref b] below meth c D cls A 4 600000 7302250 Q (wL a a' ki kz kl kq) (S', Y') [(3, .int (iI i)), (0, .ref b), (1, .ref (a 0)), (2, .ref (a' 0))] 666 []) : GG p l e room_1 s m #[Value.ref b] below meth c D cls A 4 600000 7302250 Q (wL a a' ki kz kl kq) (S, Y) [(3, .int (iI i)), (0, .ref b), (1, .ref (a 0)), (2, .ref (a' 0))] 455 [] := by
  refine g_aload_n C d_L_law_455 rfl rfl ?_
  refine g_aload_n C d_L_law_456 rfl rfl ?_
  refine g_iload_n C d_L_law_457 rfl rfl ?_
  refine g_iconst (z := 1) C d_L_law_458 rfl rfl ?_
  refine g_iadd C d_L_law_459 rfl rfl ?_
  refine g_sld C hX hbl hbA (by omega) (by omega) hL d_L_law_460 rfl ?_
  refine g_aload_n C d_L_law_461 rfl rfl ?_
  refine g_iload_n C d_L_law_462 rfl rfl ?_
  refine g_iconst (z := 2) C d_L_law_463 rfl rfl ?_
  refine g_iadd C d_L_law_464 rfl rfl ?_
  refine g_sld C hX hbl hbA (by omega) (by omega) hL d_L_law_465 rfl ?_
  refine g_aload_n C d_L_law_466 rfl rfl ?_
  refine g_iload_n C d_L_law_467 rfl rfl ?_
  refine g_iconst (z := 3) C d_L_law_468 rfl rfl ?_
  refine g_iadd C d_L_law_469 rfl rfl ?_
  refine g_sld C hX hbl hbA (by omega) (by omega) hL d_L_law_470 rfl ?_
  refine g_r1 rfl (rn_V C (m_N_within hR.2.1 hR.2.2.1 zs_r zs_r zs_r) 0 3 wX_0 rfl rfl kc_N_within k_L_54 ki_N_within kx_N_within kn_N hy_N_within ⟨rfl, rfl⟩ ⟨by decide, by decide⟩ ⟨Nat.le_refl _, Nat.le_refl _⟩ rfl rfl (Nat.le_of_ble_eq_true rfl) d_L_law_471) (fun r1 S1 h1 => ?_)
  refine g_aload_n C d_L_law_474 rfl rfl ?_
  refine g_aload_n C d_L_law_475 rfl rfl ?_
  refine g_iload_n C d_L_law_476 rfl rfl ?_
  refine g_iconst (z := 1) C d_L_law_477 rfl rfl ?_
  refine g_iadd C d_L_law_478 rfl rfl ?_
  refine g_sld C hX hbl hbA (by omega) (by omega) hL d_L_law_479 rfl ?_
  refine g_aload_n C d_L_law_480 rfl rfl ?_
  refine g_iload_n C d_L_law_481 rfl rfl ?_
  refine g_iconst (z := 2) C d_L_law_482 rfl rfl ?_
  refine g_iadd C d_L_law_483 rfl rfl ?_
  refine g_sld C hX hbl hbA (by omega) (by omega) hL d_L_law_484 rfl ?_
  refine g_aload_n C d_L_law_485 rfl rfl ?_
  refine g_iload_n C d_L_law_486 rfl rfl ?_
  refine g_iconst (z := 3) C d_L_law_487 rfl rfl ?_
  refine g_iadd C d_L_law_488 rfl rfl ?_
  refine g_sld C hX hbl hbA (by omega) (by omega) hL d_L_law_489 rfl ?_
  refine g_r2 rfl (rn_V C (m_M_within hR.gj zs_r zs_r zs_r) 0 3 wY_0 rfl rfl kc_M_within k_L_57 ki_M_within kx_M_within kn_M hy_M_within ⟨rfl, rfl⟩ ⟨by decide, by decide⟩ ⟨Nat.le_refl _, Nat.le_refl _⟩ rfl rfl (Nat.le_of_ble_eq_true rfl) d_L_law_490) (fun r2 Y1 h2 => ?_)
  obtain ⟨h12, hR2⟩ := e_within hR h1 h2
  refine g_same (tgt := 666) C h12 d_L_law_493 (by decide) ?_
  exact hc S1 Y1 hR2

set_option maxRecDepth 100000 in
set_option maxHeartbeats 4000000 in
theorem law_pairs {p : Program} {l : Launch} {e : Env} {s : State} {m : MethodId} {below : List Frame} {meth : Method} {c : Code} {D : va_G} {A : Nat → Prop} {Q : State → Prop} {a a' : Nat → Nat} {ki kz kl kq : ClassId} {S Y : Nat → Int → Int} {b L : Nat} {xs : Nat → Int32} {i : Int} (C : CX p s m #[Value.ref b] c b_L_law 4 "NextPathsLaw" TT D cls (tyz ki kz kl kq)) (hX : va_X b L xs s s.heap) (hbl : b < s.heap.size) (hbA : ¬ A b) (hL : L ≤ 2560) (hi0 : 0 ≤ i) (hi5 : i + 5 ≤ L) (hR : REL S Y) (hc : ∀ S' Y' : Nat → Int → Int, REL S' Y' → GG p l e room_1 s m #[Value.ref b] below meth c D cls A 4 600000 7302250 Q (wL a a' ki kz kl kq) (S', Y') [(3, .int (iI i)), (0, .ref b), (1, .ref (a 0)), (2, .ref (a' 0))] 666 []) : GG p l e room_1 s m #[Value.ref b] below meth c D cls A 4 600000 7302250 Q (wL a a' ki kz kl kq) (S, Y) [(3, .int (iI i)), (0, .ref b), (1, .ref (a 0)), (2, .ref (a' 0))] 498 [] := by
  refine g_aload_n C d_L_law_498 rfl rfl ?_
  refine g_aload_n C d_L_law_499 rfl rfl ?_
  refine g_iload_n C d_L_law_500 rfl rfl ?_
  refine g_iconst (z := 1) C d_L_law_501 rfl rfl ?_
  refine g_iadd C d_L_law_502 rfl rfl ?_
  refine g_sld C hX hbl hbA (by omega) (by omega) hL d_L_law_503 rfl ?_
  refine g_aload_n C d_L_law_504 rfl rfl ?_
  refine g_iload_n C d_L_law_505 rfl rfl ?_
  refine g_iconst (z := 2) C d_L_law_506 rfl rfl ?_
  refine g_iadd C d_L_law_507 rfl rfl ?_
  refine g_sld C hX hbl hbA (by omega) (by omega) hL d_L_law_508 rfl ?_
  refine g_r1 rfl (rn_V C (m_N_pairs hR.2.1 hR.2.2.1 zs_r zs_r) 0 2 wX_0 rfl rfl kc_N_pairs k_L_58 ki_N_pairs kx_N_pairs kn_N hy_N_pairs ⟨rfl, rfl⟩ ⟨by decide, by decide⟩ ⟨Nat.le_refl _, Nat.le_refl _⟩ rfl rfl (Nat.le_of_ble_eq_true rfl) d_L_law_509) (fun r1 S1 h1 => ?_)
  refine g_aload_n C d_L_law_512 rfl rfl ?_
  refine g_aload_n C d_L_law_513 rfl rfl ?_
  refine g_iload_n C d_L_law_514 rfl rfl ?_
  refine g_iconst (z := 1) C d_L_law_515 rfl rfl ?_
  refine g_iadd C d_L_law_516 rfl rfl ?_
  refine g_sld C hX hbl hbA (by omega) (by omega) hL d_L_law_517 rfl ?_
  refine g_aload_n C d_L_law_518 rfl rfl ?_
  refine g_iload_n C d_L_law_519 rfl rfl ?_
  refine g_iconst (z := 2) C d_L_law_520 rfl rfl ?_
  refine g_iadd C d_L_law_521 rfl rfl ?_
  refine g_sld C hX hbl hbA (by omega) (by omega) hL d_L_law_522 rfl ?_
  refine g_r2 rfl (rn_V C (m_M_pairs hR.gj zs_r zs_r) 0 2 wY_0 rfl rfl kc_M_pairs k_L_61 ki_M_pairs kx_M_pairs kn_M hy_M_pairs ⟨rfl, rfl⟩ ⟨by decide, by decide⟩ ⟨Nat.le_refl _, Nat.le_refl _⟩ rfl rfl (Nat.le_of_ble_eq_true rfl) d_L_law_523) (fun r2 Y1 h2 => ?_)
  obtain ⟨h12, hR2⟩ := e_pairs hR h1 h2
  refine g_same (tgt := 666) C h12 d_L_law_526 (by decide) ?_
  exact hc S1 Y1 hR2

set_option maxRecDepth 100000 in
set_option maxHeartbeats 4000000 in
theorem law_pair {p : Program} {l : Launch} {e : Env} {s : State} {m : MethodId} {below : List Frame} {meth : Method} {c : Code} {D : va_G} {A : Nat → Prop} {Q : State → Prop} {a a' : Nat → Nat} {ki kz kl kq : ClassId} {S Y : Nat → Int → Int} {b L : Nat} {xs : Nat → Int32} {i : Int} (C : CX p s m #[Value.ref b] c b_L_law 4 "NextPathsLaw" TT D cls (tyz ki kz kl kq)) (hX : va_X b L xs s s.heap) (hbl : b < s.heap.size) (hbA : ¬ A b) (hL : L ≤ 2560) (hi0 : 0 ≤ i) (hi5 : i + 5 ≤ L) (hR : REL S Y) (hc : ∀ S' Y' : Nat → Int → Int, REL S' Y' → GG p l e room_1 s m #[Value.ref b] below meth c D cls A 4 600000 7302250 Q (wL a a' ki kz kl kq) (S', Y') [(3, .int (iI i)), (0, .ref b), (1, .ref (a 0)), (2, .ref (a' 0))] 666 []) : GG p l e room_1 s m #[Value.ref b] below meth c D cls A 4 600000 7302250 Q (wL a a' ki kz kl kq) (S, Y) [(3, .int (iI i)), (0, .ref b), (1, .ref (a 0)), (2, .ref (a' 0))] 531 [] := by
  refine g_aload_n C d_L_law_531 rfl rfl ?_
  refine g_aload_n C d_L_law_532 rfl rfl ?_
  refine g_iload_n C d_L_law_533 rfl rfl ?_
  refine g_iconst (z := 1) C d_L_law_534 rfl rfl ?_
  refine g_iadd C d_L_law_535 rfl rfl ?_
  refine g_sld C hX hbl hbA (by omega) (by omega) hL d_L_law_536 rfl ?_
  refine g_aload_n C d_L_law_537 rfl rfl ?_
  refine g_iload_n C d_L_law_538 rfl rfl ?_
  refine g_iconst (z := 2) C d_L_law_539 rfl rfl ?_
  refine g_iadd C d_L_law_540 rfl rfl ?_
  refine g_sld C hX hbl hbA (by omega) (by omega) hL d_L_law_541 rfl ?_
  refine g_r1 rfl (rn_V C (m_N_pair hR.h36.1 zs_r zs_r) 0 2 wX_0 rfl rfl kc_N_pair k_L_62 ki_N_pair kx_N_pair kn_N hy_N_pair ⟨rfl, rfl⟩ ⟨by decide, by decide⟩ ⟨Nat.le_refl _, Nat.le_refl _⟩ rfl rfl (Nat.le_of_ble_eq_true rfl) d_L_law_542) (fun r1 S1 h1 => ?_)
  refine g_aload_n C d_L_law_545 rfl rfl ?_
  refine g_aload_n C d_L_law_546 rfl rfl ?_
  refine g_iload_n C d_L_law_547 rfl rfl ?_
  refine g_iconst (z := 1) C d_L_law_548 rfl rfl ?_
  refine g_iadd C d_L_law_549 rfl rfl ?_
  refine g_sld C hX hbl hbA (by omega) (by omega) hL d_L_law_550 rfl ?_
  refine g_aload_n C d_L_law_551 rfl rfl ?_
  refine g_iload_n C d_L_law_552 rfl rfl ?_
  refine g_iconst (z := 2) C d_L_law_553 rfl rfl ?_
  refine g_iadd C d_L_law_554 rfl rfl ?_
  refine g_sld C hX hbl hbA (by omega) (by omega) hL d_L_law_555 rfl ?_
  refine g_r2 rfl (rn_V C (m_M_pair hR.h36.2 zs_r zs_r) 0 2 wY_0 rfl rfl kc_M_pair k_L_65 ki_M_pair kx_M_pair kn_M hy_M_pair ⟨rfl, rfl⟩ ⟨by decide, by decide⟩ ⟨Nat.le_refl _, Nat.le_refl _⟩ rfl rfl (Nat.le_of_ble_eq_true rfl) d_L_law_556) (fun r2 Y1 h2 => ?_)
  obtain ⟨h12, hR2⟩ := e_pair hR h1 h2
  refine g_same (tgt := 666) C h12 d_L_law_559 (by decide) ?_
  exact hc S1 Y1 hR2

set_option maxRecDepth 100000 in
set_option maxHeartbeats 4000000 in
theorem law_step {p : Program} {l : Launch} {e : Env} {s : State} {m : MethodId} {below : List Frame} {meth : Method} {c : Code} {D : va_G} {A : Nat → Prop} {Q : State → Prop} {a a' : Nat → Nat} {ki kz kl kq : ClassId} {S Y : Nat → Int → Int} {b L : Nat} {xs : Nat → Int32} {i : Int} (C : CX p s m #[Value.ref b] c b_L_law 4 "NextPathsLaw" TT D cls (tyz ki kz kl kq)) (hX : va_X b L xs s s.heap) (hbl : b < s.heap.size) (hbA : ¬ A b) (hL : L ≤ 2560) (hi0 : 0 ≤ i) (hi5 : i + 5 ≤ L) (hR : REL S Y) (hc : ∀ S' Y' : Nat → Int → Int, REL S' Y' → GG p l e room_1 s m #[Value.ref b] below meth c D cls A 4 600000 7302250 Q (wL a a' ki kz kl kq) (S', Y') [(3, .int (iI i)), (0, .ref b), (1, .ref (a 0)), (2, .ref (a' 0))] 666 []) : GG p l e room_1 s m #[Value.ref b] below meth c D cls A 4 600000 7302250 Q (wL a a' ki kz kl kq) (S, Y) [(3, .int (iI i)), (0, .ref b), (1, .ref (a 0)), (2, .ref (a' 0))] 564 [] := by
  obtain ⟨P, hP, hTY⟩ := hR.P
  refine g_aload_n C d_L_law_564 rfl rfl ?_
  refine g_aload_n C d_L_law_565 rfl rfl ?_
  refine g_iload_n C d_L_law_566 rfl rfl ?_
  refine g_iconst (z := 1) C d_L_law_567 rfl rfl ?_
  refine g_iadd C d_L_law_568 rfl rfl ?_
  refine g_sld C hX hbl hbA (by omega) (by omega) hL d_L_law_569 rfl ?_
  refine g_r1 rfl (rn_V C (m_N_step hR.h31.1 zs_r) 0 1 wX_0 rfl rfl kc_N_step k_L_66 ki_N_step kx_N_step kn_N hy_N_step ⟨rfl, rfl⟩ ⟨by decide, by decide⟩ ⟨Nat.le_refl _, Nat.le_refl _⟩ rfl rfl (Nat.le_of_ble_eq_true rfl) d_L_law_570) (fun r1 S1 h1 => ?_)
  refine g_aload_n C d_L_law_573 rfl rfl ?_
  refine g_aload_n C d_L_law_574 rfl rfl ?_
  refine g_iload_n C d_L_law_575 rfl rfl ?_
  refine g_iconst (z := 1) C d_L_law_576 rfl rfl ?_
  refine g_iadd C d_L_law_577 rfl rfl ?_
  refine g_sld C hX hbl hbA (by omega) (by omega) hL d_L_law_578 rfl ?_
  refine g_r2 rfl (rn_V C (m_M_step hTY zs_r) 0 1 wY_0 rfl rfl kc_M_step k_L_70 ki_M_step kx_M_step kn_M hy_M_step ⟨rfl, rfl⟩ ⟨by decide, by decide⟩ ⟨Nat.le_refl _, Nat.le_refl _⟩ rfl rfl (Nat.le_of_ble_eq_true rfl) d_L_law_579) (fun r2 Y1 h2 => ?_)
  obtain ⟨h12, hR2⟩ := e_step hR hP h1 h2
  refine g_same (tgt := 666) C h12 d_L_law_582 (by decide) ?_
  exact hc S1 Y1 hR2

set_option maxRecDepth 100000 in
set_option maxHeartbeats 4000000 in
theorem law_sum {p : Program} {l : Launch} {e : Env} {s : State} {m : MethodId} {below : List Frame} {meth : Method} {c : Code} {D : va_G} {A : Nat → Prop} {Q : State → Prop} {a a' : Nat → Nat} {ki kz kl kq : ClassId} {S Y : Nat → Int → Int} {b L : Nat} {xs : Nat → Int32} {i : Int} (C : CX p s m #[Value.ref b] c b_L_law 4 "NextPathsLaw" TT D cls (tyz ki kz kl kq)) (hX : va_X b L xs s s.heap) (hbl : b < s.heap.size) (hbA : ¬ A b) (hL : L ≤ 2560) (hi0 : 0 ≤ i) (hi5 : i + 5 ≤ L) (hR : REL S Y) (hc : ∀ S' Y' : Nat → Int → Int, REL S' Y' → GG p l e room_1 s m #[Value.ref b] below meth c D cls A 4 600000 7302250 Q (wL a a' ki kz kl kq) (S', Y') [(3, .int (iI i)), (0, .ref b), (1, .ref (a 0)), (2, .ref (a' 0))] 666 []) : GG p l e room_1 s m #[Value.ref b] below meth c D cls A 4 600000 7302250 Q (wL a a' ki kz kl kq) (S, Y) [(3, .int (iI i)), (0, .ref b), (1, .ref (a 0)), (2, .ref (a' 0))] 587 [] := by
  refine g_aload_n C d_L_law_587 rfl rfl ?_
  refine g_aload_n C d_L_law_588 rfl rfl ?_
  refine g_iload_n C d_L_law_589 rfl rfl ?_
  refine g_iconst (z := 1) C d_L_law_590 rfl rfl ?_
  refine g_iadd C d_L_law_591 rfl rfl ?_
  refine g_sld C hX hbl hbA (by omega) (by omega) hL d_L_law_592 rfl ?_
  refine g_r1 rfl (rn_V C (m_N_sum hR.h31.1 zs_r) 0 1 wX_0 rfl rfl kc_N_sum k_L_71 ki_N_sum kx_N_sum kn_N hy_N_sum ⟨rfl, rfl⟩ ⟨by decide, by decide⟩ ⟨Nat.le_refl _, Nat.le_refl _⟩ rfl rfl (Nat.le_of_ble_eq_true rfl) d_L_law_593) (fun r1 S1 h1 => ?_)
  refine g_aload_n C d_L_law_596 rfl rfl ?_
  refine g_aload_n C d_L_law_597 rfl rfl ?_
  refine g_iload_n C d_L_law_598 rfl rfl ?_
  refine g_iconst (z := 1) C d_L_law_599 rfl rfl ?_
  refine g_iadd C d_L_law_600 rfl rfl ?_
  refine g_sld C hX hbl hbA (by omega) (by omega) hL d_L_law_601 rfl ?_
  refine g_r2 rfl (rn_V C (m_M_sum hR.h31.2 zs_r) 0 1 wY_0 rfl rfl kc_M_sum k_L_74 ki_M_sum kx_M_sum kn_M hy_M_sum ⟨rfl, rfl⟩ ⟨by decide, by decide⟩ ⟨Nat.le_refl _, Nat.le_refl _⟩ rfl rfl (Nat.le_of_ble_eq_true rfl) d_L_law_602) (fun r2 Y1 h2 => ?_)
  obtain ⟨h12, hR2⟩ := e_sum hR h1 h2
  refine g_same (tgt := 666) C h12 d_L_law_605 (by decide) ?_
  exact hc S1 Y1 hR2

set_option maxRecDepth 100000 in
set_option maxHeartbeats 4000000 in
theorem law_told {p : Program} {l : Launch} {e : Env} {s : State} {m : MethodId} {below : List Frame} {meth : Method} {c : Code} {D : va_G} {A : Nat → Prop} {Q : State → Prop} {a a' : Nat → Nat} {ki kz kl kq : ClassId} {S Y : Nat → Int → Int} {b L : Nat} {xs : Nat → Int32} {i : Int} (C : CX p s m #[Value.ref b] c b_L_law 4 "NextPathsLaw" TT D cls (tyz ki kz kl kq)) (hX : va_X b L xs s s.heap) (hbl : b < s.heap.size) (hbA : ¬ A b) (hL : L ≤ 2560) (hi0 : 0 ≤ i) (hi5 : i + 5 ≤ L) (hR : REL S Y) (hc : ∀ S' Y' : Nat → Int → Int, REL S' Y' → GG p l e room_1 s m #[Value.ref b] below meth c D cls A 4 600000 7302250 Q (wL a a' ki kz kl kq) (S', Y') [(3, .int (iI i)), (0, .ref b), (1, .ref (a 0)), (2, .ref (a' 0))] 666 []) : GG p l e room_1 s m #[Value.ref b] below meth c D cls A 4 600000 7302250 Q (wL a a' ki kz kl kq) (S, Y) [(3, .int (iI i)), (0, .ref b), (1, .ref (a 0)), (2, .ref (a' 0))] 610 [] := by
  refine g_aload_n C d_L_law_610 rfl rfl ?_
  refine g_aload_n C d_L_law_611 rfl rfl ?_
  refine g_iload_n C d_L_law_612 rfl rfl ?_
  refine g_iconst (z := 1) C d_L_law_613 rfl rfl ?_
  refine g_iadd C d_L_law_614 rfl rfl ?_
  refine g_sld C hX hbl hbA (by omega) (by omega) hL d_L_law_615 rfl ?_
  refine g_aload_n C d_L_law_616 rfl rfl ?_
  refine g_iload_n C d_L_law_617 rfl rfl ?_
  refine g_iconst (z := 2) C d_L_law_618 rfl rfl ?_
  refine g_iadd C d_L_law_619 rfl rfl ?_
  refine g_sld C hX hbl hbA (by omega) (by omega) hL d_L_law_620 rfl ?_
  refine g_r1 rfl (rn_V C (m_N_told hR.2.1 zs_r zs_r) 0 2 wX_0 rfl rfl kc_N_told k_L_75 ki_N_told kx_N_told kn_N hy_N_told ⟨rfl, rfl⟩ ⟨by decide, by decide⟩ ⟨Nat.le_refl _, Nat.le_refl _⟩ rfl rfl (Nat.le_of_ble_eq_true rfl) d_L_law_621) (fun r1 S1 h1 => ?_)
  refine g_aload_n C d_L_law_624 rfl rfl ?_
  refine g_aload_n C d_L_law_625 rfl rfl ?_
  refine g_iload_n C d_L_law_626 rfl rfl ?_
  refine g_iconst (z := 1) C d_L_law_627 rfl rfl ?_
  refine g_iadd C d_L_law_628 rfl rfl ?_
  refine g_sld C hX hbl hbA (by omega) (by omega) hL d_L_law_629 rfl ?_
  refine g_aload_n C d_L_law_630 rfl rfl ?_
  refine g_iload_n C d_L_law_631 rfl rfl ?_
  refine g_iconst (z := 2) C d_L_law_632 rfl rfl ?_
  refine g_iadd C d_L_law_633 rfl rfl ?_
  refine g_sld C hX hbl hbA (by omega) (by omega) hL d_L_law_634 rfl ?_
  refine g_r2 rfl (rn_V C (m_M_told hR.gj zs_r zs_r) 0 2 wY_0 rfl rfl kc_M_told k_L_78 ki_M_told kx_M_told kn_M hy_M_told ⟨rfl, rfl⟩ ⟨by decide, by decide⟩ ⟨Nat.le_refl _, Nat.le_refl _⟩ rfl rfl (Nat.le_of_ble_eq_true rfl) d_L_law_635) (fun r2 Y1 h2 => ?_)
  obtain ⟨h12, hR2⟩ := e_told hR h1 h2
  refine g_same (tgt := 666) C h12 d_L_law_638 (by decide) ?_
  exact hc S1 Y1 hR2

set_option maxRecDepth 100000 in
set_option maxHeartbeats 4000000 in
theorem law_of {p : Program} {l : Launch} {e : Env} {s : State} {m : MethodId} {below : List Frame} {meth : Method} {c : Code} {D : va_G} {A : Nat → Prop} {Q : State → Prop} {a a' : Nat → Nat} {ki kz kl kq : ClassId} {S Y : Nat → Int → Int} {b L : Nat} {xs : Nat → Int32} {i : Int} (C : CX p s m #[Value.ref b] c b_L_law 4 "NextPathsLaw" TT D cls (tyz ki kz kl kq)) (hX : va_X b L xs s s.heap) (hbl : b < s.heap.size) (hbA : ¬ A b) (hL : L ≤ 2560) (hi0 : 0 ≤ i) (hi5 : i + 5 ≤ L) (hR : REL S Y) (hc : ∀ S' Y' : Nat → Int → Int, REL S' Y' → GG p l e room_1 s m #[Value.ref b] below meth c D cls A 4 600000 7302250 Q (wL a a' ki kz kl kq) (S', Y') [(3, .int (iI i)), (0, .ref b), (1, .ref (a 0)), (2, .ref (a' 0))] 666 []) : GG p l e room_1 s m #[Value.ref b] below meth c D cls A 4 600000 7302250 Q (wL a a' ki kz kl kq) (S, Y) [(3, .int (iI i)), (0, .ref b), (1, .ref (a 0)), (2, .ref (a' 0))] 643 [] := by
  refine g_aload_n C d_L_law_643 rfl rfl ?_
  refine g_aload_n C d_L_law_644 rfl rfl ?_
  refine g_iload_n C d_L_law_645 rfl rfl ?_
  refine g_iconst (z := 1) C d_L_law_646 rfl rfl ?_
  refine g_iadd C d_L_law_647 rfl rfl ?_
  refine g_sld C hX hbl hbA (by omega) (by omega) hL d_L_law_648 rfl ?_
  refine g_r1 rfl (rn_V C (m_N_of hR.2.1 zs_r) 0 1 wX_0 rfl rfl kc_N_of k_L_79 ki_N_of kx_N_of kn_N hy_N_of ⟨rfl, rfl⟩ ⟨by decide, by decide⟩ ⟨Nat.le_refl _, Nat.le_refl _⟩ rfl rfl (Nat.le_of_ble_eq_true rfl) d_L_law_649) (fun r1 S1 h1 => ?_)
  refine g_aload_n C d_L_law_652 rfl rfl ?_
  refine g_aload_n C d_L_law_653 rfl rfl ?_
  refine g_iload_n C d_L_law_654 rfl rfl ?_
  refine g_iconst (z := 1) C d_L_law_655 rfl rfl ?_
  refine g_iadd C d_L_law_656 rfl rfl ?_
  refine g_sld C hX hbl hbA (by omega) (by omega) hL d_L_law_657 rfl ?_
  refine g_r2 rfl (rn_V C (m_M_of hR.gj zs_r) 0 1 wY_0 rfl rfl kc_M_of k_L_82 ki_M_of kx_M_of kn_M hy_M_of ⟨rfl, rfl⟩ ⟨by decide, by decide⟩ ⟨Nat.le_refl _, Nat.le_refl _⟩ rfl rfl (Nat.le_of_ble_eq_true rfl) d_L_law_658) (fun r2 Y1 h2 => ?_)
  obtain ⟨h12, hR2⟩ := e_of hR h1 h2
  refine g_same (tgt := 666) C h12 d_L_law_661 (by decide) ?_
  exact hc S1 Y1 hR2

