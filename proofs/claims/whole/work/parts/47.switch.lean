/-! switches -/
section GSW
variable {τ : Type} {p : Program} {l : Launch} {e : Env} {R : Room} {s : State} {m : MethodId} {args : Array Value} {below : List Frame} {meth : Method} {c : Code} {D : va_G} {cl : List vw_C} {tys : List (ClassId × FieldType)} {A : Nat → Prop} {nL nc ns : Nat} {Q : State → Prop} {w : τ → va_W} {x : τ} {cc : ByteArray} {own : String} {Ts : List Cond} {lv lv' : List (Nat × Value)} {pc n : Nat} {st : List Value}
theorem g_tin (C : CX p s m args c cc nL own Ts D cl tys) {dflt lo hi off z k : Int} {offs : Array Int} {len tgt : Nat} (hzk : z = k) (hd : decode cc pc = .ok (.tableswitch dflt lo hi offs, len)) (hr : r32 k) (h1 : lo ≤ k) (h2 : k ≤ hi) (ho : offs[(k - lo).toNat]? = some off) (ht : (pc : Int) + off = (tgt : Int)) (kk : GG p l e R s m args below meth c D cl A nL nc ns Q w x lv tgt st) : GG p l e R s m args below meth c D cl A nL nc ns Q w x lv pc (.int (iI z) :: st) :=
  fun H locs ls hP hD hS hl => by
    subst hzk
    exact lv_tableIn C.1 C.2.1 hd (by rw [iI_t hr]; omega) (by rw [iI_t hr]; omega) (by rw [iI_t hr]; exact ho) ht (kk H locs ls hP hD hS hl)
theorem g_tout (C : CX p s m args c cc nL own Ts D cl tys) {dflt lo hi z : Int} {offs : Array Int} {len tgt : Nat} (hz : z < lo ∨ hi < z) (hd : decode cc pc = .ok (.tableswitch dflt lo hi offs, len)) (hr : r32 z) (ht : (pc : Int) + dflt = (tgt : Int)) (kk : GG p l e R s m args below meth c D cl A nL nc ns Q w x lv tgt st) : GG p l e R s m args below meth c D cl A nL nc ns Q w x lv pc (.int (iI z) :: st) :=
  fun H locs ls hP hD hS hl => lv_tableOut C.1 C.2.1 hd (by rw [iI_t hr]; exact hz) ht (kk H locs ls hP hD hS hl)
theorem g_lsw (C : CX p s m args c cc nL own Ts D cl tys) {dflt off z : Int} {ps : Array (Int × Int)} {len tgt : Nat} (hd : decode cc pc = .ok (.lookupswitch dflt ps, len)) (hp : (ps.toList.zip (ps.toList.drop 1)).all (fun (a, next) => a.1 < next.1) = true) (hr : r32 z) (ho : Op.lookupswitch.offset ps.toList dflt z = off) (ht : (pc : Int) + off = (tgt : Int)) (kk : GG p l e R s m args below meth c D cl A nL nc ns Q w x lv tgt st) : GG p l e R s m args below meth c D cl A nL nc ns Q w x lv pc (.int (iI z) :: st) :=
  fun H locs ls hP hD hS hl => lv_lookup C.1 C.2.1 hd hp (by rw [iI_t hr]; exact ho) ht (kk H locs ls hP hD hS hl)
end GSW
