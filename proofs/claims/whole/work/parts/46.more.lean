/-! some rows more -/
section GM
variable {τ : Type} {p : Program} {l : Launch} {e : Env} {R : Room} {s : State} {m : MethodId} {args : Array Value} {below : List Frame} {meth : Method} {c : Code} {D : va_G} {cl : List vw_C} {tys : List (ClassId × FieldType)} {A : Nat → Prop} {nL nc ns : Nat} {Q : State → Prop} {w : τ → va_W} {x : τ} {cc : ByteArray} {own : String} {Ts : List Cond} {lv lv' : List (Nat × Value)} {pc n : Nat} {st : List Value}
theorem g_v {z z' : Int} (h : z = z') (k : GG p l e R s m args below meth c D cl A nL nc ns Q w x lv pc (.int (iI z') :: st)) : GG p l e R s m args below meth c D cl A nL nc ns Q w x lv pc (.int (iI z) :: st) := h ▸ k
theorem g_vl {z z' : Int} (h : z = z') (k : GG p l e R s m args below meth c D cl A nL nc ns Q w x lv pc (.long (lI z') :: st)) : GG p l e R s m args below meth c D cl A nL nc ns Q w x lv pc (.long (lI z) :: st) := h ▸ k
theorem g_alen (C : CX p s m args c cc nL own Ts D cl tys) {a N : Nat} {cA : ClassId} {ty : FieldType} {r : (Nat → Int32) ⊕ (Nat → Int64) ⊕ (Nat → UInt32) ⊕ (Nat → UInt64) ⊕ (Nat → Option Nat)} (q0 t0 : Nat) (he : (w x)[q0]? = some (a, .inl (cA, N, r))) (ht : tys[t0]? = some (cA, ty)) (hd : decode cc pc = .ok (.arraylength, 1)) (hn : pc + 1 = n)
    (kk : GG p l e R s m args below meth c D cl A nL nc ns Q w x lv n (.int (iI (N : Int)) :: st)) : GG p l e R s m args below meth c D cl A nL nc ns Q w x lv pc (.ref a :: st) :=
  fun H locs ls hP hD hS hl => by
    subst hn
    exact va_alen C.1 C.2.1 C.2.2.2.2.2.1 hP q0 t0 he ht (iI_nI N).symm hd (kk H locs ls hP hD hS hl)
end GM
/-- nothing but the places of l has changed -/
def eqx (l : List Nat) (S S' : Nat → Int → Int) : Prop := ∀ k, k ∉ l → S' k = S k
/-- place k holds v at 0 .. n - 1 -/
def fl (S : Nat → Int → Int) (k : Nat) (n v : Int) : Nat → Int → Int := fun i => if i = k then (fun j => if 0 ≤ j ∧ j < n then v else S i j) else S i
/-! Arrays.fill -/
abbrev w1 (q : Nat) (ki : ClassId) (N : Nat) : (Int → Int) → va_W := fun f => [(q, .inl (ki, N, .inl (ia f)))]
theorem lo_fill {l : Launch} {D : va_G} {ki kz kl kq : ClassId} {q N : Nat} {p : Program} {e : Env} {s : State} {m : MethodId} {args : Array Value} {below : List Frame} {meth : Method} {c : Code} {f0 : Int → Int} {v : Int} (hN : N < 2147483648) (C : CX p s m args c b_J_fill 4 "java/util/Arrays" TT D cls (tyz ki kz kl kq)) (hr : meth.sig.returnType = none) (hk : meth.locks = false) : ∀ (k : Nat) (i : Int), 0 ≤ i → i ≤ N → N ≤ i.toNat + k →
    GG p l e rm_J_fill s m args below meth c D cls (adr (w1 q ki N f0)) 4 0 0 (MQ below (QcW D cls (w1 q ki N) f0 (pV fun f' => f' = fun j => if 0 ≤ j ∧ j < (N : Int) then v else f0 j)) args s 0 0 (adr (w1 q ki N f0))) (w1 q ki N) (fun j => if 0 ≤ j ∧ j < i then v else f0 j) [(3, .int (iI (N : Int))), (2, .int (iI i)), (0, .ref q), (1, .int (iI v))] 5 [] := by
  intro k
  induction k with
  | zero =>
    intro i h0 h1 h2
    refine g_iload_n C d_J_fill_5 rfl rfl ?_
    refine g_iload_n C d_J_fill_6 rfl rfl ?_
    refine g_icmp_ge (tgt := 20) C d_J_fill_7 (by decide) rfl (by omega) (by omega) (fun h => ?_) (fun h => absurd h (by omega))
    refine g_vret C hr hk d_J_fill_20 ⟨rfl, ?_⟩
    have : i = N := by omega
    rw [this]
  | succ k ih =>
    intro i h0 h1 h2
    refine g_iload_n C d_J_fill_5 rfl rfl ?_
    refine g_iload_n C d_J_fill_6 rfl rfl ?_
    refine g_icmp_ge (tgt := 20) C d_J_fill_7 (by decide) rfl (by omega) (by omega) (fun h => ?_) (fun h => ?_)
    · refine g_vret C hr hk d_J_fill_20 ⟨rfl, ?_⟩
      have : i = N := by omega
      rw [this]
    · refine g_aload_n C d_J_fill_10 rfl rfl ?_
      refine g_iload_n C d_J_fill_11 rfl rfl ?_
      refine g_iload_n C d_J_fill_12 rfl rfl ?_
      refine g_iast C 0 0 rfl rfl (by omega) (by omega) hN rfl d_J_fill_13 rfl ?_
      obtain ⟨i', ei⟩ : ∃ z : Int, z = i + 1 := ⟨_, rfl⟩
      refine g_iinc (q := 1) (z := i') (lv' := [(2, .int (iI i')), (3, .int (iI (N : Int))), (0, .ref q), (1, .int (iI v))]) C d_J_fill_14 rfl ei.symm (by decide) rfl rfl ?_
      refine g_goto (tgt := 5) C d_J_fill_17 (by decide) ?_
      refine GG.lvs (lv' := [(3, .int (iI (N : Int))), (2, .int (iI i')), (0, .ref q), (1, .int (iI v))]) (by simp [lk]) ?_
      refine GG.at (x' := fun j => if 0 ≤ j ∧ j < i' then v else f0 j) ?_ (ih i' (by omega) (by omega) (by omega))
      funext j
      unfold up_
      by_cases e1 : j = i
      · rw [if_pos e1, if_pos (by omega)]
      · rw [if_neg e1]
        show (if 0 ≤ j ∧ j < i then v else f0 j) = _
        by_cases e2 : 0 ≤ j ∧ j < i
        · rw [if_pos e2, if_pos (by omega)]
        · rw [if_neg e2, if_neg (by omega)]
theorem m_J_fill {l : Launch} {D : va_G} {ki kz kl kq : ClassId} {q N : Nat} {f0 : Int → Int} {v : Int} (hN : N < 2147483648) : MM l D cls (tyz ki kz kl kq) (w1 q ki N) y_J_fill (Cond.code y_J_fill b_J_fill 4 none :: TT) rm_J_fill [.ref q, .int (iI v)] f0 (pV fun f' => f' = fun j => if 0 ≤ j ∧ j < (N : Int) then v else f0 j) := by
  refine MM.go b_J_fill 4 none "java/util/Arrays" [(0, .ref q), (1, .int (iI v))] (by decide) rfl rfl (Nat.le_of_ble_eq_true rfl) ?_
  intro p e s m args below meth c C hr hk
  refine g_iconst (z := 0) C d_J_fill_0 rfl rfl ?_
  refine g_istore_n (lv' := [(2, .int (iI 0)), (0, .ref q), (1, .int (iI v))]) C d_J_fill_1 (by decide) rfl rfl ?_
  refine g_aload_n C d_J_fill_2 rfl rfl ?_
  refine g_alen C 0 0 rfl rfl d_J_fill_3 rfl ?_
  refine g_istore_n (lv' := [(3, .int (iI (N : Int))), (2, .int (iI 0)), (0, .ref q), (1, .int (iI v))]) C d_J_fill_4 (by decide) rfl rfl ?_
  refine GG.at (x' := fun j => if 0 ≤ j ∧ j < 0 then v else f0 j) ?_ (lo_fill hN C hr hk N 0 (by omega) (by omega) (by omega))
  funext j
  rw [if_neg (by omega)]
/-! bits of codes, in whole numbers -/
theorem nI_iI {z : Int} (h : 0 ≤ z) : iI z = nI z.toNat := by rw [← iI_nI, Int.toNat_of_nonneg h]
theorem lN_lI {z : Int} (h : 0 ≤ z) : lI z = lN z.toNat := by
  have : lI ((z.toNat : Nat) : Int) = lN z.toNat := Int64.ofInt_eq_ofNat
  rw [← this, Int.toNat_of_nonneg h]
theorem i2l_ok {z : Int} (h : r32 z) : (iI z).toInt64 = lI z := by
  have e1 : Int32.minValue.toInt = -2147483648 := by decide
  have e2 : Int32.maxValue.toInt = 2147483647 := by decide
  exact Int32.toInt64_ofInt (by omega) (by omega)
theorem lshl_ok {z k : Int} (hz : 0 ≤ z) (h0 : 0 ≤ k) (h1 : k < 64) : lI z <<< ((iI k).toInt64 &&& 63) = lI (z * 2 ^ k.toNat) := by
  rw [lN_lI hz, nI_iI h0, bl_shl _ (by omega)]
  rw [lN_lI (Int.mul_nonneg hz (Int.le_of_lt (Int.pow_pos (by omega))))]
  congr 1
  rw [Int.toNat_mul hz (Int.le_of_lt (Int.pow_pos (by omega)))]
  have e3 : ((2 : Int) ^ k.toNat).toNat = 2 ^ k.toNat := by
    rw [show (2 : Int) ^ k.toNat = ((2 ^ k.toNat : Nat) : Int) by rw [Int.natCast_pow]; rfl, Int.toNat_natCast]
  rw [e3]
theorem lshr_ok {z k : Int} (hz : 0 ≤ z) (hz2 : z < 4611686018427387904) (h0 : 0 ≤ k) (h1 : k < 64) : lI z >>> ((iI k).toInt64 &&& 63) = lI (z / 2 ^ k.toNat) := by
  have hp : (2 : Int) ^ k.toNat = ((2 ^ k.toNat : Nat) : Int) := by rw [Int.natCast_pow]; rfl
  rw [lN_lI hz, nI_iI h0, bl_shr (by omega) (by omega)]
  rw [lN_lI (Int.ediv_nonneg hz (Int.le_of_lt (Int.pow_pos (by omega))))]
  congr 1
  rw [hp, ← Int.toNat_of_nonneg hz, ← Int.natCast_ediv, Int.toNat_natCast, Int.toNat_natCast]
theorem iand_ok {z : Int} (k : Nat) (hz : 0 ≤ z) (hk : k < 31) : iI z &&& iI ((2 ^ k : Nat) - 1 : Int) = iI (z % (2 ^ k : Nat)) := by
  have hp : 0 < 2 ^ k := Nat.pow_pos (by omega)
  rw [nI_iI hz, nI_iI (z := ((2 ^ k : Nat) - 1 : Int)) (by omega), bi_and]
  rw [show ((2 ^ k : Nat) - 1 : Int).toNat = 2 ^ k - 1 by omega, Nat.and_two_pow_sub_one_eq_mod]
  rw [nI_iI (Int.emod_nonneg _ (by omega))]
  congr 1
  rw [← Int.toNat_of_nonneg hz, ← Int.natCast_emod, Int.toNat_natCast, Int.toNat_natCast]
theorem lor_ok {b z : Int} (k : Nat) (hk : k < 63) (hb : 0 ≤ b) (hz : 0 ≤ z) (h1 : z < (2 ^ k : Nat)) (h2 : b * (2 ^ k : Nat) + z < 4611686018427387904) : lI (b * (2 ^ k : Nat)) ||| lI z = lI (b * (2 ^ k : Nat) + z) := by
  have hp : 0 < 2 ^ k := Nat.pow_pos (by omega)
  have e1 : (b * ((2 ^ k : Nat) : Int)) = ((b.toNat * 2 ^ k : Nat) : Int) := by rw [Int.natCast_mul, Int.toNat_of_nonneg hb]
  have e2 : z = ((z.toNat : Nat) : Int) := (Int.toNat_of_nonneg hz).symm
  rw [e1] at h2 ⊢
  rw [e2] at h1 h2 ⊢
  rw [← Int.natCast_add, lN_lI (by omega), lN_lI (by omega), lN_lI (by omega)]
  simp only [Int.toNat_natCast]
  exact bl_or (by omega) (by omega)
