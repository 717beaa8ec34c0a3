/-! the cells of the system and of the reference: addresses a, array classes ki kz kl kq, contents S: place by place a row of numbers -/
def us (S : Nat → Int → Int) (j : Nat) (z v : Int) : Nat → Int → Int := fun i => if i = j then up_ (S i) z v else S i
theorem us_s {S : Nat → Int → Int} {j : Nat} {z v : Int} : us S j z v j = up_ (S j) z v := by simp [us]
theorem us_n {S : Nat → Int → Int} {i j : Nat} {z v : Int} (h : i ≠ j) : us S j z v i = S i := by simp [us, h]
def tyz (ki kz kl kq : ClassId) : List (ClassId × FieldType) := [(ki, .int), (kz, .boolean), (kl, .long), (kq, .array .int)]
def wX (a : Nat → Nat) (ki kz kl kq : ClassId) (S : Nat → Int → Int) : va_W := [(a 0, .inr (0, [.ref (a 1), .ref (a 17), .ref (a 19), .ref (a 27), .ref (a 22), .ref (a 24)])), (a 1, .inr (1, [.int (iI (S 0 0)), .int (iI (S 1 0)), .ref (a 2), .ref (a 3), .ref (a 4), .ref (a 5), .ref (a 6), .ref (a 7), .ref (a 16)])), (a 2, .inl (ki, 20, .inl (ia (S 2)))), (a 3, .inl (ki, 20, .inl (ia (S 3)))), (a 4, .inl (ki, 20, .inl (ia (S 4)))), (a 5, .inl (ki, 20, .inl (ia (S 5)))), (a 6, .inl (kz, 20, .inl (ia (S 6)))), (a 7, .inl (kq, 8, .inr (.inr (.inr (.inr (fun i => if i < 8 then some (a (8 + i)) else none)))))), (a 8, .inl (ki, 20, .inl (ia (S 8)))), (a 9, .inl (ki, 20, .inl (ia (S 9)))), (a 10, .inl (ki, 20, .inl (ia (S 10)))), (a 11, .inl (ki, 20, .inl (ia (S 11)))), (a 12, .inl (ki, 20, .inl (ia (S 12)))), (a 13, .inl (ki, 20, .inl (ia (S 13)))), (a 14, .inl (ki, 20, .inl (ia (S 14)))), (a 15, .inl (ki, 20, .inl (ia (S 15)))), (a 16, .inl (ki, 8, .inl (ia (S 7)))), (a 17, .inr (2, [.ref (a 18), .int (iI (S 17 0))])), (a 18, .inl (kl, 1458, .inr (.inl (la (S 16))))), (a 19, .inr (3, [.ref (a 1), .ref (a 17), .ref (a 20), .ref (a 21), .int (iI (S 20 0))])), (a 20, .inl (kz, 8, .inl (ia (S 18)))), (a 21, .inl (ki, 7, .inl (ia (S 19)))), (a 22, .inr (4, [.ref (a 23), .int (iI (S 31 0)), .int (iI (S 32 0)), .int (iI (S 33 0))])), (a 23, .inl (ki, 7, .inl (ia (S 30)))), (a 24, .inr (5, [.ref (a 25), .ref (a 26), .int (iI (S 36 0))])), (a 25, .inl (ki, 1458, .inl (ia (S 34)))), (a 26, .inl (ki, 1458, .inl (ia (S 35)))), (a 27, .inr (6, [.ref (a 1), .ref (a 28), .ref (a 29), .ref (a 30), .ref (a 31), .ref (a 32), .ref (a 33), .int (iI (S 27 0)), .int (iI (S 28 0)), .int (iI (S 29 0))])), (a 28, .inl (ki, 56, .inl (ia (S 21)))), (a 29, .inl (ki, 56, .inl (ia (S 22)))), (a 30, .inl (ki, 56, .inl (ia (S 23)))), (a 31, .inl (ki, 56, .inl (ia (S 24)))), (a 32, .inl (ki, 16, .inl (ia (S 25)))), (a 33, .inl (ki, 16, .inl (ia (S 26))))]
theorem wX_fix (a : Nat → Nat) (ki kz kl kq : ClassId) : fixD (wX a ki kz kl kq) := fun _ _ => rfl
section WX
variable {a : Nat → Nat} {ki kz kl kq : ClassId} {S : Nat → Int → Int} {z v : Int}
theorem wX_0 : (wX a ki kz kl kq S)[0]? = some (a 0, .inr (0, [.ref (a 1), .ref (a 17), .ref (a 19), .ref (a 27), .ref (a 22), .ref (a 24)])) := rfl
theorem wX_1 : (wX a ki kz kl kq S)[1]? = some (a 1, .inr (1, [.int (iI (S 0 0)), .int (iI (S 1 0)), .ref (a 2), .ref (a 3), .ref (a 4), .ref (a 5), .ref (a 6), .ref (a 7), .ref (a 16)])) := rfl
theorem wX_2 : (wX a ki kz kl kq S)[2]? = some (a 2, .inl (ki, 20, .inl (ia (S 2)))) := rfl
theorem wX_3 : (wX a ki kz kl kq S)[3]? = some (a 3, .inl (ki, 20, .inl (ia (S 3)))) := rfl
theorem wX_4 : (wX a ki kz kl kq S)[4]? = some (a 4, .inl (ki, 20, .inl (ia (S 4)))) := rfl
theorem wX_5 : (wX a ki kz kl kq S)[5]? = some (a 5, .inl (ki, 20, .inl (ia (S 5)))) := rfl
theorem wX_6 : (wX a ki kz kl kq S)[6]? = some (a 6, .inl (kz, 20, .inl (ia (S 6)))) := rfl
theorem wX_7 : (wX a ki kz kl kq S)[7]? = some (a 7, .inl (kq, 8, .inr (.inr (.inr (.inr (fun i => if i < 8 then some (a (8 + i)) else none)))))) := rfl
theorem wX_8 : (wX a ki kz kl kq S)[8]? = some (a 8, .inl (ki, 20, .inl (ia (S 8)))) := rfl
theorem wX_9 : (wX a ki kz kl kq S)[9]? = some (a 9, .inl (ki, 20, .inl (ia (S 9)))) := rfl
theorem wX_10 : (wX a ki kz kl kq S)[10]? = some (a 10, .inl (ki, 20, .inl (ia (S 10)))) := rfl
theorem wX_11 : (wX a ki kz kl kq S)[11]? = some (a 11, .inl (ki, 20, .inl (ia (S 11)))) := rfl
theorem wX_12 : (wX a ki kz kl kq S)[12]? = some (a 12, .inl (ki, 20, .inl (ia (S 12)))) := rfl
theorem wX_13 : (wX a ki kz kl kq S)[13]? = some (a 13, .inl (ki, 20, .inl (ia (S 13)))) := rfl
theorem wX_14 : (wX a ki kz kl kq S)[14]? = some (a 14, .inl (ki, 20, .inl (ia (S 14)))) := rfl
theorem wX_15 : (wX a ki kz kl kq S)[15]? = some (a 15, .inl (ki, 20, .inl (ia (S 15)))) := rfl
theorem wX_16 : (wX a ki kz kl kq S)[16]? = some (a 16, .inl (ki, 8, .inl (ia (S 7)))) := rfl
theorem wX_17 : (wX a ki kz kl kq S)[17]? = some (a 17, .inr (2, [.ref (a 18), .int (iI (S 17 0))])) := rfl
theorem wX_18 : (wX a ki kz kl kq S)[18]? = some (a 18, .inl (kl, 1458, .inr (.inl (la (S 16))))) := rfl
theorem wX_19 : (wX a ki kz kl kq S)[19]? = some (a 19, .inr (3, [.ref (a 1), .ref (a 17), .ref (a 20), .ref (a 21), .int (iI (S 20 0))])) := rfl
theorem wX_20 : (wX a ki kz kl kq S)[20]? = some (a 20, .inl (kz, 8, .inl (ia (S 18)))) := rfl
theorem wX_21 : (wX a ki kz kl kq S)[21]? = some (a 21, .inl (ki, 7, .inl (ia (S 19)))) := rfl
theorem wX_22 : (wX a ki kz kl kq S)[22]? = some (a 22, .inr (4, [.ref (a 23), .int (iI (S 31 0)), .int (iI (S 32 0)), .int (iI (S 33 0))])) := rfl
theorem wX_23 : (wX a ki kz kl kq S)[23]? = some (a 23, .inl (ki, 7, .inl (ia (S 30)))) := rfl
theorem wX_24 : (wX a ki kz kl kq S)[24]? = some (a 24, .inr (5, [.ref (a 25), .ref (a 26), .int (iI (S 36 0))])) := rfl
theorem wX_25 : (wX a ki kz kl kq S)[25]? = some (a 25, .inl (ki, 1458, .inl (ia (S 34)))) := rfl
theorem wX_26 : (wX a ki kz kl kq S)[26]? = some (a 26, .inl (ki, 1458, .inl (ia (S 35)))) := rfl
theorem wX_27 : (wX a ki kz kl kq S)[27]? = some (a 27, .inr (6, [.ref (a 1), .ref (a 28), .ref (a 29), .ref (a 30), .ref (a 31), .ref (a 32), .ref (a 33), .int (iI (S 27 0)), .int (iI (S 28 0)), .int (iI (S 29 0))])) := rfl
theorem wX_28 : (wX a ki kz kl kq S)[28]? = some (a 28, .inl (ki, 56, .inl (ia (S 21)))) := rfl
theorem wX_29 : (wX a ki kz kl kq S)[29]? = some (a 29, .inl (ki, 56, .inl (ia (S 22)))) := rfl
theorem wX_30 : (wX a ki kz kl kq S)[30]? = some (a 30, .inl (ki, 56, .inl (ia (S 23)))) := rfl
theorem wX_31 : (wX a ki kz kl kq S)[31]? = some (a 31, .inl (ki, 56, .inl (ia (S 24)))) := rfl
theorem wX_32 : (wX a ki kz kl kq S)[32]? = some (a 32, .inl (ki, 16, .inl (ia (S 25)))) := rfl
theorem wX_33 : (wX a ki kz kl kq S)[33]? = some (a 33, .inl (ki, 16, .inl (ia (S 26)))) := rfl
theorem wX_p1_0 : (wX a ki kz kl kq S).set 1 (a 1, .inr (1, [.int (iI (S 0 0)), .int (iI (S 1 0)), .ref (a 2), .ref (a 3), .ref (a 4), .ref (a 5), .ref (a 6), .ref (a 7), .ref (a 16)].set 0 (.int (iI v)))) = wX a ki kz kl kq (us S 0 0 v) := rfl
theorem wX_p1_1 : (wX a ki kz kl kq S).set 1 (a 1, .inr (1, [.int (iI (S 0 0)), .int (iI (S 1 0)), .ref (a 2), .ref (a 3), .ref (a 4), .ref (a 5), .ref (a 6), .ref (a 7), .ref (a 16)].set 1 (.int (iI v)))) = wX a ki kz kl kq (us S 1 0 v) := rfl
theorem wX_s2 : (wX a ki kz kl kq S).set 2 (a 2, .inl (ki, 20, .inl (ia (up_ (S 2) z v)))) = wX a ki kz kl kq (us S 2 z v) := rfl
theorem wX_s3 : (wX a ki kz kl kq S).set 3 (a 3, .inl (ki, 20, .inl (ia (up_ (S 3) z v)))) = wX a ki kz kl kq (us S 3 z v) := rfl
theorem wX_s4 : (wX a ki kz kl kq S).set 4 (a 4, .inl (ki, 20, .inl (ia (up_ (S 4) z v)))) = wX a ki kz kl kq (us S 4 z v) := rfl
theorem wX_s5 : (wX a ki kz kl kq S).set 5 (a 5, .inl (ki, 20, .inl (ia (up_ (S 5) z v)))) = wX a ki kz kl kq (us S 5 z v) := rfl
theorem wX_s6 : (wX a ki kz kl kq S).set 6 (a 6, .inl (kz, 20, .inl (ia (up_ (S 6) z v)))) = wX a ki kz kl kq (us S 6 z v) := rfl
theorem wX_s8 : (wX a ki kz kl kq S).set 8 (a 8, .inl (ki, 20, .inl (ia (up_ (S 8) z v)))) = wX a ki kz kl kq (us S 8 z v) := rfl
theorem wX_s9 : (wX a ki kz kl kq S).set 9 (a 9, .inl (ki, 20, .inl (ia (up_ (S 9) z v)))) = wX a ki kz kl kq (us S 9 z v) := rfl
theorem wX_s10 : (wX a ki kz kl kq S).set 10 (a 10, .inl (ki, 20, .inl (ia (up_ (S 10) z v)))) = wX a ki kz kl kq (us S 10 z v) := rfl
theorem wX_s11 : (wX a ki kz kl kq S).set 11 (a 11, .inl (ki, 20, .inl (ia (up_ (S 11) z v)))) = wX a ki kz kl kq (us S 11 z v) := rfl
theorem wX_s12 : (wX a ki kz kl kq S).set 12 (a 12, .inl (ki, 20, .inl (ia (up_ (S 12) z v)))) = wX a ki kz kl kq (us S 12 z v) := rfl
theorem wX_s13 : (wX a ki kz kl kq S).set 13 (a 13, .inl (ki, 20, .inl (ia (up_ (S 13) z v)))) = wX a ki kz kl kq (us S 13 z v) := rfl
theorem wX_s14 : (wX a ki kz kl kq S).set 14 (a 14, .inl (ki, 20, .inl (ia (up_ (S 14) z v)))) = wX a ki kz kl kq (us S 14 z v) := rfl
theorem wX_s15 : (wX a ki kz kl kq S).set 15 (a 15, .inl (ki, 20, .inl (ia (up_ (S 15) z v)))) = wX a ki kz kl kq (us S 15 z v) := rfl
theorem wX_s16 : (wX a ki kz kl kq S).set 16 (a 16, .inl (ki, 8, .inl (ia (up_ (S 7) z v)))) = wX a ki kz kl kq (us S 7 z v) := rfl
theorem wX_p17_1 : (wX a ki kz kl kq S).set 17 (a 17, .inr (2, [.ref (a 18), .int (iI (S 17 0))].set 1 (.int (iI v)))) = wX a ki kz kl kq (us S 17 0 v) := rfl
theorem wX_s18 : (wX a ki kz kl kq S).set 18 (a 18, .inl (kl, 1458, .inr (.inl (la (up_ (S 16) z v))))) = wX a ki kz kl kq (us S 16 z v) := rfl
theorem wX_p19_4 : (wX a ki kz kl kq S).set 19 (a 19, .inr (3, [.ref (a 1), .ref (a 17), .ref (a 20), .ref (a 21), .int (iI (S 20 0))].set 4 (.int (iI v)))) = wX a ki kz kl kq (us S 20 0 v) := rfl
theorem wX_s20 : (wX a ki kz kl kq S).set 20 (a 20, .inl (kz, 8, .inl (ia (up_ (S 18) z v)))) = wX a ki kz kl kq (us S 18 z v) := rfl
theorem wX_s21 : (wX a ki kz kl kq S).set 21 (a 21, .inl (ki, 7, .inl (ia (up_ (S 19) z v)))) = wX a ki kz kl kq (us S 19 z v) := rfl
theorem wX_p22_1 : (wX a ki kz kl kq S).set 22 (a 22, .inr (4, [.ref (a 23), .int (iI (S 31 0)), .int (iI (S 32 0)), .int (iI (S 33 0))].set 1 (.int (iI v)))) = wX a ki kz kl kq (us S 31 0 v) := rfl
theorem wX_p22_2 : (wX a ki kz kl kq S).set 22 (a 22, .inr (4, [.ref (a 23), .int (iI (S 31 0)), .int (iI (S 32 0)), .int (iI (S 33 0))].set 2 (.int (iI v)))) = wX a ki kz kl kq (us S 32 0 v) := rfl
theorem wX_p22_3 : (wX a ki kz kl kq S).set 22 (a 22, .inr (4, [.ref (a 23), .int (iI (S 31 0)), .int (iI (S 32 0)), .int (iI (S 33 0))].set 3 (.int (iI v)))) = wX a ki kz kl kq (us S 33 0 v) := rfl
theorem wX_s23 : (wX a ki kz kl kq S).set 23 (a 23, .inl (ki, 7, .inl (ia (up_ (S 30) z v)))) = wX a ki kz kl kq (us S 30 z v) := rfl
theorem wX_p24_2 : (wX a ki kz kl kq S).set 24 (a 24, .inr (5, [.ref (a 25), .ref (a 26), .int (iI (S 36 0))].set 2 (.int (iI v)))) = wX a ki kz kl kq (us S 36 0 v) := rfl
theorem wX_s25 : (wX a ki kz kl kq S).set 25 (a 25, .inl (ki, 1458, .inl (ia (up_ (S 34) z v)))) = wX a ki kz kl kq (us S 34 z v) := rfl
theorem wX_s26 : (wX a ki kz kl kq S).set 26 (a 26, .inl (ki, 1458, .inl (ia (up_ (S 35) z v)))) = wX a ki kz kl kq (us S 35 z v) := rfl
theorem wX_p27_7 : (wX a ki kz kl kq S).set 27 (a 27, .inr (6, [.ref (a 1), .ref (a 28), .ref (a 29), .ref (a 30), .ref (a 31), .ref (a 32), .ref (a 33), .int (iI (S 27 0)), .int (iI (S 28 0)), .int (iI (S 29 0))].set 7 (.int (iI v)))) = wX a ki kz kl kq (us S 27 0 v) := rfl
theorem wX_p27_8 : (wX a ki kz kl kq S).set 27 (a 27, .inr (6, [.ref (a 1), .ref (a 28), .ref (a 29), .ref (a 30), .ref (a 31), .ref (a 32), .ref (a 33), .int (iI (S 27 0)), .int (iI (S 28 0)), .int (iI (S 29 0))].set 8 (.int (iI v)))) = wX a ki kz kl kq (us S 28 0 v) := rfl
theorem wX_p27_9 : (wX a ki kz kl kq S).set 27 (a 27, .inr (6, [.ref (a 1), .ref (a 28), .ref (a 29), .ref (a 30), .ref (a 31), .ref (a 32), .ref (a 33), .int (iI (S 27 0)), .int (iI (S 28 0)), .int (iI (S 29 0))].set 9 (.int (iI v)))) = wX a ki kz kl kq (us S 29 0 v) := rfl
theorem wX_s28 : (wX a ki kz kl kq S).set 28 (a 28, .inl (ki, 56, .inl (ia (up_ (S 21) z v)))) = wX a ki kz kl kq (us S 21 z v) := rfl
theorem wX_s29 : (wX a ki kz kl kq S).set 29 (a 29, .inl (ki, 56, .inl (ia (up_ (S 22) z v)))) = wX a ki kz kl kq (us S 22 z v) := rfl
theorem wX_s30 : (wX a ki kz kl kq S).set 30 (a 30, .inl (ki, 56, .inl (ia (up_ (S 23) z v)))) = wX a ki kz kl kq (us S 23 z v) := rfl
theorem wX_s31 : (wX a ki kz kl kq S).set 31 (a 31, .inl (ki, 56, .inl (ia (up_ (S 24) z v)))) = wX a ki kz kl kq (us S 24 z v) := rfl
theorem wX_s32 : (wX a ki kz kl kq S).set 32 (a 32, .inl (ki, 16, .inl (ia (up_ (S 25) z v)))) = wX a ki kz kl kq (us S 25 z v) := rfl
theorem wX_s33 : (wX a ki kz kl kq S).set 33 (a 33, .inl (ki, 16, .inl (ia (up_ (S 26) z v)))) = wX a ki kz kl kq (us S 26 z v) := rfl
end WX
def wY (a : Nat → Nat) (ki kz kl kq : ClassId) (S : Nat → Int → Int) : va_W := [(a 0, .inr (7, [.int (iI (S 0 0)), .int (iI (S 1 0)), .ref (a 1), .ref (a 2), .ref (a 3), .ref (a 4), .ref (a 5), .int (iI (S 7 0)), .ref (a 6), .ref (a 7), .ref (a 8), .ref (a 9), .ref (a 10), .ref (a 11), .int (iI (S 14 0)), .int (iI (S 15 0)), .int (iI (S 16 0)), .int (iI (S 17 0)), .long (lI (S 18 0)), .int (iI (S 19 0)), .ref (a 12), .ref (a 13), .ref (a 14), .ref (a 15), .ref (a 16), .ref (a 17), .ref (a 18), .ref (a 19)])), (a 1, .inl (ki, 20, .inl (ia (S 2)))), (a 2, .inl (ki, 20, .inl (ia (S 3)))), (a 3, .inl (ki, 20, .inl (ia (S 4)))), (a 4, .inl (ki, 20, .inl (ia (S 5)))), (a 5, .inl (kz, 20, .inl (ia (S 6)))), (a 6, .inl (ki, 4000, .inl (ia (S 8)))), (a 7, .inl (ki, 4000, .inl (ia (S 9)))), (a 8, .inl (kl, 4000, .inr (.inl (la (S 10))))), (a 9, .inl (ki, 4000, .inl (ia (S 11)))), (a 10, .inl (ki, 4000, .inl (ia (S 12)))), (a 11, .inl (ki, 4000, .inl (ia (S 13)))), (a 12, .inl (ki, 4000, .inl (ia (S 20)))), (a 13, .inl (ki, 4000, .inl (ia (S 21)))), (a 14, .inl (ki, 8, .inl (ia (S 22)))), (a 15, .inl (ki, 8, .inl (ia (S 23)))), (a 16, .inl (ki, 6, .inl (ia (S 24)))), (a 17, .inl (ki, 6, .inl (ia (S 25)))), (a 18, .inl (ki, 6, .inl (ia (S 26)))), (a 19, .inl (ki, 6, .inl (ia (S 27))))]
theorem wY_fix (a : Nat → Nat) (ki kz kl kq : ClassId) : fixD (wY a ki kz kl kq) := fun _ _ => rfl
section WY
variable {a : Nat → Nat} {ki kz kl kq : ClassId} {S : Nat → Int → Int} {z v : Int}
theorem wY_0 : (wY a ki kz kl kq S)[0]? = some (a 0, .inr (7, [.int (iI (S 0 0)), .int (iI (S 1 0)), .ref (a 1), .ref (a 2), .ref (a 3), .ref (a 4), .ref (a 5), .int (iI (S 7 0)), .ref (a 6), .ref (a 7), .ref (a 8), .ref (a 9), .ref (a 10), .ref (a 11), .int (iI (S 14 0)), .int (iI (S 15 0)), .int (iI (S 16 0)), .int (iI (S 17 0)), .long (lI (S 18 0)), .int (iI (S 19 0)), .ref (a 12), .ref (a 13), .ref (a 14), .ref (a 15), .ref (a 16), .ref (a 17), .ref (a 18), .ref (a 19)])) := rfl
theorem wY_1 : (wY a ki kz kl kq S)[1]? = some (a 1, .inl (ki, 20, .inl (ia (S 2)))) := rfl
theorem wY_2 : (wY a ki kz kl kq S)[2]? = some (a 2, .inl (ki, 20, .inl (ia (S 3)))) := rfl
theorem wY_3 : (wY a ki kz kl kq S)[3]? = some (a 3, .inl (ki, 20, .inl (ia (S 4)))) := rfl
theorem wY_4 : (wY a ki kz kl kq S)[4]? = some (a 4, .inl (ki, 20, .inl (ia (S 5)))) := rfl
theorem wY_5 : (wY a ki kz kl kq S)[5]? = some (a 5, .inl (kz, 20, .inl (ia (S 6)))) := rfl
theorem wY_6 : (wY a ki kz kl kq S)[6]? = some (a 6, .inl (ki, 4000, .inl (ia (S 8)))) := rfl
theorem wY_7 : (wY a ki kz kl kq S)[7]? = some (a 7, .inl (ki, 4000, .inl (ia (S 9)))) := rfl
theorem wY_8 : (wY a ki kz kl kq S)[8]? = some (a 8, .inl (kl, 4000, .inr (.inl (la (S 10))))) := rfl
theorem wY_9 : (wY a ki kz kl kq S)[9]? = some (a 9, .inl (ki, 4000, .inl (ia (S 11)))) := rfl
theorem wY_10 : (wY a ki kz kl kq S)[10]? = some (a 10, .inl (ki, 4000, .inl (ia (S 12)))) := rfl
theorem wY_11 : (wY a ki kz kl kq S)[11]? = some (a 11, .inl (ki, 4000, .inl (ia (S 13)))) := rfl
theorem wY_12 : (wY a ki kz kl kq S)[12]? = some (a 12, .inl (ki, 4000, .inl (ia (S 20)))) := rfl
theorem wY_13 : (wY a ki kz kl kq S)[13]? = some (a 13, .inl (ki, 4000, .inl (ia (S 21)))) := rfl
theorem wY_14 : (wY a ki kz kl kq S)[14]? = some (a 14, .inl (ki, 8, .inl (ia (S 22)))) := rfl
theorem wY_15 : (wY a ki kz kl kq S)[15]? = some (a 15, .inl (ki, 8, .inl (ia (S 23)))) := rfl
theorem wY_16 : (wY a ki kz kl kq S)[16]? = some (a 16, .inl (ki, 6, .inl (ia (S 24)))) := rfl
theorem wY_17 : (wY a ki kz kl kq S)[17]? = some (a 17, .inl (ki, 6, .inl (ia (S 25)))) := rfl
theorem wY_18 : (wY a ki kz kl kq S)[18]? = some (a 18, .inl (ki, 6, .inl (ia (S 26)))) := rfl
theorem wY_19 : (wY a ki kz kl kq S)[19]? = some (a 19, .inl (ki, 6, .inl (ia (S 27)))) := rfl
theorem wY_p0_0 : (wY a ki kz kl kq S).set 0 (a 0, .inr (7, [.int (iI (S 0 0)), .int (iI (S 1 0)), .ref (a 1), .ref (a 2), .ref (a 3), .ref (a 4), .ref (a 5), .int (iI (S 7 0)), .ref (a 6), .ref (a 7), .ref (a 8), .ref (a 9), .ref (a 10), .ref (a 11), .int (iI (S 14 0)), .int (iI (S 15 0)), .int (iI (S 16 0)), .int (iI (S 17 0)), .long (lI (S 18 0)), .int (iI (S 19 0)), .ref (a 12), .ref (a 13), .ref (a 14), .ref (a 15), .ref (a 16), .ref (a 17), .ref (a 18), .ref (a 19)].set 0 (.int (iI v)))) = wY a ki kz kl kq (us S 0 0 v) := rfl
theorem wY_p0_1 : (wY a ki kz kl kq S).set 0 (a 0, .inr (7, [.int (iI (S 0 0)), .int (iI (S 1 0)), .ref (a 1), .ref (a 2), .ref (a 3), .ref (a 4), .ref (a 5), .int (iI (S 7 0)), .ref (a 6), .ref (a 7), .ref (a 8), .ref (a 9), .ref (a 10), .ref (a 11), .int (iI (S 14 0)), .int (iI (S 15 0)), .int (iI (S 16 0)), .int (iI (S 17 0)), .long (lI (S 18 0)), .int (iI (S 19 0)), .ref (a 12), .ref (a 13), .ref (a 14), .ref (a 15), .ref (a 16), .ref (a 17), .ref (a 18), .ref (a 19)].set 1 (.int (iI v)))) = wY a ki kz kl kq (us S 1 0 v) := rfl
theorem wY_p0_7 : (wY a ki kz kl kq S).set 0 (a 0, .inr (7, [.int (iI (S 0 0)), .int (iI (S 1 0)), .ref (a 1), .ref (a 2), .ref (a 3), .ref (a 4), .ref (a 5), .int (iI (S 7 0)), .ref (a 6), .ref (a 7), .ref (a 8), .ref (a 9), .ref (a 10), .ref (a 11), .int (iI (S 14 0)), .int (iI (S 15 0)), .int (iI (S 16 0)), .int (iI (S 17 0)), .long (lI (S 18 0)), .int (iI (S 19 0)), .ref (a 12), .ref (a 13), .ref (a 14), .ref (a 15), .ref (a 16), .ref (a 17), .ref (a 18), .ref (a 19)].set 7 (.int (iI v)))) = wY a ki kz kl kq (us S 7 0 v) := rfl
theorem wY_p0_14 : (wY a ki kz kl kq S).set 0 (a 0, .inr (7, [.int (iI (S 0 0)), .int (iI (S 1 0)), .ref (a 1), .ref (a 2), .ref (a 3), .ref (a 4), .ref (a 5), .int (iI (S 7 0)), .ref (a 6), .ref (a 7), .ref (a 8), .ref (a 9), .ref (a 10), .ref (a 11), .int (iI (S 14 0)), .int (iI (S 15 0)), .int (iI (S 16 0)), .int (iI (S 17 0)), .long (lI (S 18 0)), .int (iI (S 19 0)), .ref (a 12), .ref (a 13), .ref (a 14), .ref (a 15), .ref (a 16), .ref (a 17), .ref (a 18), .ref (a 19)].set 14 (.int (iI v)))) = wY a ki kz kl kq (us S 14 0 v) := rfl
theorem wY_p0_15 : (wY a ki kz kl kq S).set 0 (a 0, .inr (7, [.int (iI (S 0 0)), .int (iI (S 1 0)), .ref (a 1), .ref (a 2), .ref (a 3), .ref (a 4), .ref (a 5), .int (iI (S 7 0)), .ref (a 6), .ref (a 7), .ref (a 8), .ref (a 9), .ref (a 10), .ref (a 11), .int (iI (S 14 0)), .int (iI (S 15 0)), .int (iI (S 16 0)), .int (iI (S 17 0)), .long (lI (S 18 0)), .int (iI (S 19 0)), .ref (a 12), .ref (a 13), .ref (a 14), .ref (a 15), .ref (a 16), .ref (a 17), .ref (a 18), .ref (a 19)].set 15 (.int (iI v)))) = wY a ki kz kl kq (us S 15 0 v) := rfl
theorem wY_p0_16 : (wY a ki kz kl kq S).set 0 (a 0, .inr (7, [.int (iI (S 0 0)), .int (iI (S 1 0)), .ref (a 1), .ref (a 2), .ref (a 3), .ref (a 4), .ref (a 5), .int (iI (S 7 0)), .ref (a 6), .ref (a 7), .ref (a 8), .ref (a 9), .ref (a 10), .ref (a 11), .int (iI (S 14 0)), .int (iI (S 15 0)), .int (iI (S 16 0)), .int (iI (S 17 0)), .long (lI (S 18 0)), .int (iI (S 19 0)), .ref (a 12), .ref (a 13), .ref (a 14), .ref (a 15), .ref (a 16), .ref (a 17), .ref (a 18), .ref (a 19)].set 16 (.int (iI v)))) = wY a ki kz kl kq (us S 16 0 v) := rfl
theorem wY_p0_17 : (wY a ki kz kl kq S).set 0 (a 0, .inr (7, [.int (iI (S 0 0)), .int (iI (S 1 0)), .ref (a 1), .ref (a 2), .ref (a 3), .ref (a 4), .ref (a 5), .int (iI (S 7 0)), .ref (a 6), .ref (a 7), .ref (a 8), .ref (a 9), .ref (a 10), .ref (a 11), .int (iI (S 14 0)), .int (iI (S 15 0)), .int (iI (S 16 0)), .int (iI (S 17 0)), .long (lI (S 18 0)), .int (iI (S 19 0)), .ref (a 12), .ref (a 13), .ref (a 14), .ref (a 15), .ref (a 16), .ref (a 17), .ref (a 18), .ref (a 19)].set 17 (.int (iI v)))) = wY a ki kz kl kq (us S 17 0 v) := rfl
theorem wY_p0_18 : (wY a ki kz kl kq S).set 0 (a 0, .inr (7, [.int (iI (S 0 0)), .int (iI (S 1 0)), .ref (a 1), .ref (a 2), .ref (a 3), .ref (a 4), .ref (a 5), .int (iI (S 7 0)), .ref (a 6), .ref (a 7), .ref (a 8), .ref (a 9), .ref (a 10), .ref (a 11), .int (iI (S 14 0)), .int (iI (S 15 0)), .int (iI (S 16 0)), .int (iI (S 17 0)), .long (lI (S 18 0)), .int (iI (S 19 0)), .ref (a 12), .ref (a 13), .ref (a 14), .ref (a 15), .ref (a 16), .ref (a 17), .ref (a 18), .ref (a 19)].set 18 (.long (lI v)))) = wY a ki kz kl kq (us S 18 0 v) := rfl
theorem wY_p0_19 : (wY a ki kz kl kq S).set 0 (a 0, .inr (7, [.int (iI (S 0 0)), .int (iI (S 1 0)), .ref (a 1), .ref (a 2), .ref (a 3), .ref (a 4), .ref (a 5), .int (iI (S 7 0)), .ref (a 6), .ref (a 7), .ref (a 8), .ref (a 9), .ref (a 10), .ref (a 11), .int (iI (S 14 0)), .int (iI (S 15 0)), .int (iI (S 16 0)), .int (iI (S 17 0)), .long (lI (S 18 0)), .int (iI (S 19 0)), .ref (a 12), .ref (a 13), .ref (a 14), .ref (a 15), .ref (a 16), .ref (a 17), .ref (a 18), .ref (a 19)].set 19 (.int (iI v)))) = wY a ki kz kl kq (us S 19 0 v) := rfl
theorem wY_s1 : (wY a ki kz kl kq S).set 1 (a 1, .inl (ki, 20, .inl (ia (up_ (S 2) z v)))) = wY a ki kz kl kq (us S 2 z v) := rfl
theorem wY_s2 : (wY a ki kz kl kq S).set 2 (a 2, .inl (ki, 20, .inl (ia (up_ (S 3) z v)))) = wY a ki kz kl kq (us S 3 z v) := rfl
theorem wY_s3 : (wY a ki kz kl kq S).set 3 (a 3, .inl (ki, 20, .inl (ia (up_ (S 4) z v)))) = wY a ki kz kl kq (us S 4 z v) := rfl
theorem wY_s4 : (wY a ki kz kl kq S).set 4 (a 4, .inl (ki, 20, .inl (ia (up_ (S 5) z v)))) = wY a ki kz kl kq (us S 5 z v) := rfl
theorem wY_s5 : (wY a ki kz kl kq S).set 5 (a 5, .inl (kz, 20, .inl (ia (up_ (S 6) z v)))) = wY a ki kz kl kq (us S 6 z v) := rfl
theorem wY_s6 : (wY a ki kz kl kq S).set 6 (a 6, .inl (ki, 4000, .inl (ia (up_ (S 8) z v)))) = wY a ki kz kl kq (us S 8 z v) := rfl
theorem wY_s7 : (wY a ki kz kl kq S).set 7 (a 7, .inl (ki, 4000, .inl (ia (up_ (S 9) z v)))) = wY a ki kz kl kq (us S 9 z v) := rfl
theorem wY_s8 : (wY a ki kz kl kq S).set 8 (a 8, .inl (kl, 4000, .inr (.inl (la (up_ (S 10) z v))))) = wY a ki kz kl kq (us S 10 z v) := rfl
theorem wY_s9 : (wY a ki kz kl kq S).set 9 (a 9, .inl (ki, 4000, .inl (ia (up_ (S 11) z v)))) = wY a ki kz kl kq (us S 11 z v) := rfl
theorem wY_s10 : (wY a ki kz kl kq S).set 10 (a 10, .inl (ki, 4000, .inl (ia (up_ (S 12) z v)))) = wY a ki kz kl kq (us S 12 z v) := rfl
theorem wY_s11 : (wY a ki kz kl kq S).set 11 (a 11, .inl (ki, 4000, .inl (ia (up_ (S 13) z v)))) = wY a ki kz kl kq (us S 13 z v) := rfl
theorem wY_s12 : (wY a ki kz kl kq S).set 12 (a 12, .inl (ki, 4000, .inl (ia (up_ (S 20) z v)))) = wY a ki kz kl kq (us S 20 z v) := rfl
theorem wY_s13 : (wY a ki kz kl kq S).set 13 (a 13, .inl (ki, 4000, .inl (ia (up_ (S 21) z v)))) = wY a ki kz kl kq (us S 21 z v) := rfl
theorem wY_s14 : (wY a ki kz kl kq S).set 14 (a 14, .inl (ki, 8, .inl (ia (up_ (S 22) z v)))) = wY a ki kz kl kq (us S 22 z v) := rfl
theorem wY_s15 : (wY a ki kz kl kq S).set 15 (a 15, .inl (ki, 8, .inl (ia (up_ (S 23) z v)))) = wY a ki kz kl kq (us S 23 z v) := rfl
theorem wY_s16 : (wY a ki kz kl kq S).set 16 (a 16, .inl (ki, 6, .inl (ia (up_ (S 24) z v)))) = wY a ki kz kl kq (us S 24 z v) := rfl
theorem wY_s17 : (wY a ki kz kl kq S).set 17 (a 17, .inl (ki, 6, .inl (ia (up_ (S 25) z v)))) = wY a ki kz kl kq (us S 25 z v) := rfl
theorem wY_s18 : (wY a ki kz kl kq S).set 18 (a 18, .inl (ki, 6, .inl (ia (up_ (S 26) z v)))) = wY a ki kz kl kq (us S 26 z v) := rfl
theorem wY_s19 : (wY a ki kz kl kq S).set 19 (a 19, .inl (ki, 6, .inl (ia (up_ (S 27) z v)))) = wY a ki kz kl kq (us S 27 z v) := rfl
end WY
