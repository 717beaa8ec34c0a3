/-! bits of numbers -/
theorem bi_or (a b : Nat) : nI a ||| nI b = nI (a ||| b) := by
  apply Int32.toBitVec_inj.1
  show BitVec.ofNat 32 a ||| BitVec.ofNat 32 b = BitVec.ofNat 32 (a ||| b)
  apply BitVec.eq_of_getLsbD_eq
  intro i hi
  simp [hi]
theorem bi_and (a b : Nat) : nI a &&& nI b = nI (a &&& b) := by
  apply Int32.toBitVec_inj.1
  show BitVec.ofNat 32 a &&& BitVec.ofNat 32 b = BitVec.ofNat 32 (a &&& b)
  apply BitVec.eq_of_getLsbD_eq
  intro i hi
  simp [hi]
theorem bi_clr (a b : Nat) : nI a &&& (nI b ^^^ (-1)) = nI (a ^^^ (a &&& b)) := by
  apply Int32.toBitVec_inj.1
  show BitVec.ofNat 32 a &&& (BitVec.ofNat 32 b ^^^ BitVec.allOnes 32) = BitVec.ofNat 32 (a ^^^ (a &&& b))
  apply BitVec.eq_of_getLsbD_eq
  intro i hi
  simp only [BitVec.getLsbD_and, BitVec.getLsbD_xor, BitVec.getLsbD_allOnes, BitVec.getLsbD_ofNat, hi, decide_true, Bool.true_and, Nat.testBit_xor, Nat.testBit_and]
  cases a.testBit i <;> cases b.testBit i <;> rfl
theorem bi_shl1 : ∀ k, k < 31 → (nI 1 <<< (nI k &&& 31)) = nI (2 ^ k) := by decide +kernel
theorem bi_sm : ∀ k, k < 32 → (((nI k &&& 31).toBitVec.smod 32).toNat) = k := by decide +kernel
theorem bi_shr {a k : Nat} (ha : a < 2 ^ 31) (hk : k < 32) : nI a >>> (nI k &&& 31) = nI (a / 2 ^ k) := pk_shrN ha _ k (bi_sm k hk)
theorem bi_bit {a k : Nat} (ha : a < 2 ^ 31) (hk : k < 32) : (nI a >>> (nI k &&& 31)) &&& nI 1 = nI (if a.testBit k then 1 else 0) := by
  rw [bi_shr ha hk, bi_and, Nat.and_one_is_mod, Nat.testBit_eq_decide_div_mod_eq]
  congr 1
  have := Nat.mod_two_eq_zero_or_one (a / 2 ^ k)
  rcases this with h | h <;> simp [h]
theorem bl_c : ∀ k, k < 64 → ((nI k).toInt64 &&& 63) = lN k := by decide +kernel
theorem bl_sm : ∀ k, k < 64 → (BitVec.ofNat 64 k).smod 64 = BitVec.ofNat 64 k := by decide +kernel
theorem bl_shl (n : Nat) {k : Nat} (hk : k < 64) : lN n <<< ((nI k).toInt64 &&& 63) = lN (n * 2 ^ k) := by
  rw [bl_c k hk]
  apply Int64.toBitVec_inj.mp
  rw [Int64.toBitVec_shiftLeft]
  show BitVec.ofNat 64 n <<< ((BitVec.ofNat 64 k).smod 64) = BitVec.ofNat 64 (n * 2 ^ k)
  rw [bl_sm k hk]
  apply BitVec.eq_of_toNat_eq
  rw [BitVec.shiftLeft_eq', BitVec.toNat_shiftLeft, BitVec.toNat_ofNat, BitVec.toNat_ofNat, BitVec.toNat_ofNat, Nat.mod_eq_of_lt (show k < 2 ^ 64 by omega), Nat.shiftLeft_eq, Nat.mul_mod, Nat.mod_mod, ← Nat.mul_mod]
theorem bl_u {n : Nat} (h : n < 2 ^ 64) : (UInt64.ofNat n).toNat = n := Nat.mod_eq_of_lt h
theorem bl_or {k a b : Nat} (ha : a < 2 ^ k) (h : b * 2 ^ k + a < 2 ^ 64) : lN (b * 2 ^ k) ||| lN a = lN (b * 2 ^ k + a) := by
  have h1 : b * 2 ^ k ||| a = b * 2 ^ k + a := by rw [← Nat.shiftLeft_eq, Nat.shiftLeft_add_eq_or_of_lt ha]
  have h3 : UInt64.ofNat (b * 2 ^ k) ||| UInt64.ofNat a = UInt64.ofNat (b * 2 ^ k + a) := UInt64.toNat_inj.mp (by rw [UInt64.toNat_or, bl_u (by omega), bl_u (by omega), bl_u h, h1])
  exact congrArg UInt64.toInt64 h3
theorem bl_shr {a k : Nat} (ha : a < 2 ^ 62) (hk : k < 64) : lN a >>> ((nI k).toInt64 &&& 63) = lN (a / 2 ^ k) := by
  rw [bl_c k hk]
  apply Int64.toInt_inj.mp
  rw [pk_lT (by have := Nat.div_le_self a (2 ^ k); omega)]
  have e : (lN a >>> lN k).toInt = (lN a).toInt >>> k := by
    rw [← Int64.toInt_toBitVec, Int64.toBitVec_shiftRight]
    show (BitVec.sshiftRight' (lN a).toBitVec ((BitVec.ofNat 64 k).smod 64)).toInt = _
    rw [bl_sm k hk]
    simp [BitVec.sshiftRight', BitVec.toInt_sshiftRight, Nat.mod_eq_of_lt (show k < 18446744073709551616 by omega)]
  rw [e, pk_lT (by omega), Int.shiftRight_eq_div_pow]
  simp
theorem bl_and {a b : Nat} (ha : a < 2 ^ 64) (hb : b < 2 ^ 64) : lN a &&& lN b = lN (a &&& b) := by
  have h : UInt64.ofNat a &&& UInt64.ofNat b = UInt64.ofNat (a &&& b) := UInt64.toNat_inj.mp (by rw [UInt64.toNat_and, bl_u ha, bl_u hb, bl_u (Nat.and_lt_two_pow a hb)])
  exact congrArg UInt64.toInt64 h
