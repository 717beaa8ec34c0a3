section
-- ===== PART A: goes FIRST, ahead of the names: the tables' words, and 'selects' of the private methods out of them =====
/-- a private method of a class that the tables say can be made, by its rows of tables_1 -/
def lw_okq (q : MethodName × Nat) : Prop := (q.1.cls ≠ "java/lang/invoke/MethodHandle" ∧ q.1.cls ≠ "java/lang/invoke/VarHandle") ∧ Cond.instantiable q.1.cls q.2 ∈ tables_1 ∧ Cond.privateMethod q.1 ∈ tables_1 ∧ Cond.instanceMethod q.1 ∈ tables_1
theorem lw_p0 : lw_okq (⟨"NextPaths$Graph", "empty", "()V"⟩, 9) := ⟨⟨by decide +kernel, by decide +kernel⟩, List.mem_of_getElem? (i := 20) (by decide +kernel), List.mem_of_getElem? (i := 215) (by decide +kernel), List.mem_of_getElem? (i := 216) (by decide +kernel)⟩
theorem lw_p1 : lw_okq (⟨"NextPaths$ToldPath", "empty", "()V"⟩, 4) := ⟨⟨by decide +kernel, by decide +kernel⟩, List.mem_of_getElem? (i := 150) (by decide +kernel), List.mem_of_getElem? (i := 222) (by decide +kernel), List.mem_of_getElem? (i := 223) (by decide +kernel)⟩
theorem lw_p2 : lw_okq (⟨"NextPaths$BestPairs", "empty", "()V"⟩, 3) := ⟨⟨by decide +kernel, by decide +kernel⟩, List.mem_of_getElem? (i := 173) (by decide +kernel), List.mem_of_getElem? (i := 226) (by decide +kernel), List.mem_of_getElem? (i := 227) (by decide +kernel)⟩
theorem lw_p3 : lw_okq (⟨"NextPaths$Graph", "addNode", "()I"⟩, 9) := ⟨⟨by decide +kernel, by decide +kernel⟩, List.mem_of_getElem? (i := 20) (by decide +kernel), List.mem_of_getElem? (i := 234) (by decide +kernel), List.mem_of_getElem? (i := 235) (by decide +kernel)⟩
theorem lw_p4 : lw_okq (⟨"NextPaths$Graph", "areTwoNodes", "(II)Z"⟩, 9) := ⟨⟨by decide +kernel, by decide +kernel⟩, List.mem_of_getElem? (i := 20) (by decide +kernel), List.mem_of_getElem? (i := 242) (by decide +kernel), List.mem_of_getElem? (i := 243) (by decide +kernel)⟩
theorem lw_p5 : lw_okq (⟨"NextPaths$Graph", "isNode", "(I)Z"⟩, 9) := ⟨⟨by decide +kernel, by decide +kernel⟩, List.mem_of_getElem? (i := 20) (by decide +kernel), List.mem_of_getElem? (i := 246) (by decide +kernel), List.mem_of_getElem? (i := 247) (by decide +kernel)⟩
theorem lw_p6 : lw_okq (⟨"NextPaths$Graph", "addArc", "(IIII)I"⟩, 9) := ⟨⟨by decide +kernel, by decide +kernel⟩, List.mem_of_getElem? (i := 20) (by decide +kernel), List.mem_of_getElem? (i := 257) (by decide +kernel), List.mem_of_getElem? (i := 258) (by decide +kernel)⟩
theorem lw_p7 : lw_okq (⟨"NextPaths$Graph", "isArc", "(I)Z"⟩, 9) := ⟨⟨by decide +kernel, by decide +kernel⟩, List.mem_of_getElem? (i := 20) (by decide +kernel), List.mem_of_getElem? (i := 265) (by decide +kernel), List.mem_of_getElem? (i := 266) (by decide +kernel)⟩
theorem lw_p8 : lw_okq (⟨"NextPaths$PathFinder", "findAll", "(II)V"⟩, 5) := ⟨⟨by decide +kernel, by decide +kernel⟩, List.mem_of_getElem? (i := 91) (by decide +kernel), List.mem_of_getElem? (i := 277) (by decide +kernel), List.mem_of_getElem? (i := 278) (by decide +kernel)⟩
theorem lw_p9 : lw_okq (⟨"NextPaths$PathHeap", "empty", "()V"⟩, 2) := ⟨⟨by decide +kernel, by decide +kernel⟩, List.mem_of_getElem? (i := 76) (by decide +kernel), List.mem_of_getElem? (i := 281) (by decide +kernel), List.mem_of_getElem? (i := 282) (by decide +kernel)⟩
theorem lw_p10 : lw_okq (⟨"NextPaths$PathFinder", "code", "(I)J"⟩, 5) := ⟨⟨by decide +kernel, by decide +kernel⟩, List.mem_of_getElem? (i := 91) (by decide +kernel), List.mem_of_getElem? (i := 288) (by decide +kernel), List.mem_of_getElem? (i := 289) (by decide +kernel)⟩
theorem lw_p11 : lw_okq (⟨"NextPaths$PathHeap", "add", "(J)V"⟩, 2) := ⟨⟨by decide +kernel, by decide +kernel⟩, List.mem_of_getElem? (i := 76) (by decide +kernel), List.mem_of_getElem? (i := 301) (by decide +kernel), List.mem_of_getElem? (i := 302) (by decide +kernel)⟩
theorem lw_p12 : lw_okq (⟨"NextPaths$PathHeap", "takeFirst", "()J"⟩, 2) := ⟨⟨by decide +kernel, by decide +kernel⟩, List.mem_of_getElem? (i := 76) (by decide +kernel), List.mem_of_getElem? (i := 305) (by decide +kernel), List.mem_of_getElem? (i := 306) (by decide +kernel)⟩
theorem lw_p13 : lw_okq (⟨"NextPaths$PathHeap", "sinkFromTop", "(J)V"⟩, 2) := ⟨⟨by decide +kernel, by decide +kernel⟩, List.mem_of_getElem? (i := 76) (by decide +kernel), List.mem_of_getElem? (i := 310) (by decide +kernel), List.mem_of_getElem? (i := 311) (by decide +kernel)⟩
theorem lw_p14 : lw_okq (⟨"NextPaths$PathHeap", "lesserChild", "(I)I"⟩, 2) := ⟨⟨by decide +kernel, by decide +kernel⟩, List.mem_of_getElem? (i := 76) (by decide +kernel), List.mem_of_getElem? (i := 314) (by decide +kernel), List.mem_of_getElem? (i := 315) (by decide +kernel)⟩
theorem lw_p15 : lw_okq (⟨"NextPaths$ToldPath", "tell", "(LNextPaths$Graph;J)I"⟩, 4) := ⟨⟨by decide +kernel, by decide +kernel⟩, List.mem_of_getElem? (i := 150) (by decide +kernel), List.mem_of_getElem? (i := 318) (by decide +kernel), List.mem_of_getElem? (i := 319) (by decide +kernel)⟩
def lw_privs_1 : List (MethodName × Nat) := [(⟨"NextPaths$Graph", "empty", "()V"⟩, 9), (⟨"NextPaths$ToldPath", "empty", "()V"⟩, 4), (⟨"NextPaths$BestPairs", "empty", "()V"⟩, 3), (⟨"NextPaths$Graph", "addNode", "()I"⟩, 9), (⟨"NextPaths$Graph", "areTwoNodes", "(II)Z"⟩, 9), (⟨"NextPaths$Graph", "isNode", "(I)Z"⟩, 9), (⟨"NextPaths$Graph", "addArc", "(IIII)I"⟩, 9), (⟨"NextPaths$Graph", "isArc", "(I)Z"⟩, 9), (⟨"NextPaths$PathFinder", "findAll", "(II)V"⟩, 5), (⟨"NextPaths$PathHeap", "empty", "()V"⟩, 2), (⟨"NextPaths$PathFinder", "code", "(I)J"⟩, 5), (⟨"NextPaths$PathHeap", "add", "(J)V"⟩, 2), (⟨"NextPaths$PathHeap", "takeFirst", "()J"⟩, 2), (⟨"NextPaths$PathHeap", "sinkFromTop", "(J)V"⟩, 2), (⟨"NextPaths$PathHeap", "lesserChild", "(I)I"⟩, 2), (⟨"NextPaths$ToldPath", "tell", "(LNextPaths$Graph;J)I"⟩, 4)]
theorem lw_r1 : ∀ q ∈ lw_privs_1, lw_okq q := List.forall_mem_cons.mpr ⟨lw_p0, List.forall_mem_cons.mpr ⟨lw_p1, List.forall_mem_cons.mpr ⟨lw_p2, List.forall_mem_cons.mpr ⟨lw_p3, List.forall_mem_cons.mpr ⟨lw_p4, List.forall_mem_cons.mpr ⟨lw_p5, List.forall_mem_cons.mpr ⟨lw_p6, List.forall_mem_cons.mpr ⟨lw_p7, List.forall_mem_cons.mpr ⟨lw_p8, List.forall_mem_cons.mpr ⟨lw_p9, List.forall_mem_cons.mpr ⟨lw_p10, List.forall_mem_cons.mpr ⟨lw_p11, List.forall_mem_cons.mpr ⟨lw_p12, List.forall_mem_cons.mpr ⟨lw_p13, List.forall_mem_cons.mpr ⟨lw_p14, List.forall_mem_cons.mpr ⟨lw_p15, fun _ h => absurd h List.not_mem_nil⟩⟩⟩⟩⟩⟩⟩⟩⟩⟩⟩⟩⟩⟩⟩⟩
theorem lw_p16 : lw_okq (⟨"NextPaths$Graph", "secondOf", "(J)I"⟩, 9) := ⟨⟨by decide +kernel, by decide +kernel⟩, List.mem_of_getElem? (i := 20) (by decide +kernel), List.mem_of_getElem? (i := 328) (by decide +kernel), List.mem_of_getElem? (i := 329) (by decide +kernel)⟩
theorem lw_p17 : lw_okq (⟨"NextPaths$Flow", "prepare", "(IIZ)V"⟩, 10) := ⟨⟨by decide +kernel, by decide +kernel⟩, List.mem_of_getElem? (i := 113) (by decide +kernel), List.mem_of_getElem? (i := 346) (by decide +kernel), List.mem_of_getElem? (i := 347) (by decide +kernel)⟩
theorem lw_p18 : lw_okq (⟨"NextPaths$Flow", "addEdge", "(IIII)V"⟩, 10) := ⟨⟨by decide +kernel, by decide +kernel⟩, List.mem_of_getElem? (i := 113) (by decide +kernel), List.mem_of_getElem? (i := 356) (by decide +kernel), List.mem_of_getElem? (i := 357) (by decide +kernel)⟩
theorem lw_p19 : lw_okq (⟨"NextPaths$Flow", "setEdge", "(IIIII)V"⟩, 10) := ⟨⟨by decide +kernel, by decide +kernel⟩, List.mem_of_getElem? (i := 113) (by decide +kernel), List.mem_of_getElem? (i := 360) (by decide +kernel), List.mem_of_getElem? (i := 361) (by decide +kernel)⟩
theorem lw_p20 : lw_okq (⟨"NextPaths$Flow", "addPath", "()I"⟩, 10) := ⟨⟨by decide +kernel, by decide +kernel⟩, List.mem_of_getElem? (i := 113) (by decide +kernel), List.mem_of_getElem? (i := 364) (by decide +kernel), List.mem_of_getElem? (i := 365) (by decide +kernel)⟩
theorem lw_p21 : lw_okq (⟨"NextPaths$Flow", "measure", "()V"⟩, 10) := ⟨⟨by decide +kernel, by decide +kernel⟩, List.mem_of_getElem? (i := 113) (by decide +kernel), List.mem_of_getElem? (i := 368) (by decide +kernel), List.mem_of_getElem? (i := 369) (by decide +kernel)⟩
theorem lw_p22 : lw_okq (⟨"NextPaths$Flow", "tryEdge", "(I)Z"⟩, 10) := ⟨⟨by decide +kernel, by decide +kernel⟩, List.mem_of_getElem? (i := 113) (by decide +kernel), List.mem_of_getElem? (i := 374) (by decide +kernel), List.mem_of_getElem? (i := 375) (by decide +kernel)⟩
theorem lw_p23 : lw_okq (⟨"NextPaths$BestPairs", "offer", "(II)V"⟩, 3) := ⟨⟨by decide +kernel, by decide +kernel⟩, List.mem_of_getElem? (i := 173) (by decide +kernel), List.mem_of_getElem? (i := 392) (by decide +kernel), List.mem_of_getElem? (i := 393) (by decide +kernel)⟩
theorem lw_p24 : lw_okq (⟨"NextPaths$Graph", "shutArcs", "()I"⟩, 9) := ⟨⟨by decide +kernel, by decide +kernel⟩, List.mem_of_getElem? (i := 20) (by decide +kernel), List.mem_of_getElem? (i := 416) (by decide +kernel), List.mem_of_getElem? (i := 417) (by decide +kernel)⟩
theorem lw_p25 : lw_okq (⟨"NextPathsModel", "areTwo", "(II)Z"⟩, 28) := ⟨⟨by decide +kernel, by decide +kernel⟩, List.mem_of_getElem? (i := 420) (by decide +kernel), List.mem_of_getElem? (i := 523) (by decide +kernel), List.mem_of_getElem? (i := 524) (by decide +kernel)⟩
theorem lw_p26 : lw_okq (⟨"NextPathsModel", "isNode", "(I)Z"⟩, 28) := ⟨⟨by decide +kernel, by decide +kernel⟩, List.mem_of_getElem? (i := 420) (by decide +kernel), List.mem_of_getElem? (i := 527) (by decide +kernel), List.mem_of_getElem? (i := 528) (by decide +kernel)⟩
theorem lw_p27 : lw_okq (⟨"NextPathsModel", "isArc", "(I)Z"⟩, 28) := ⟨⟨by decide +kernel, by decide +kernel⟩, List.mem_of_getElem? (i := 420) (by decide +kernel), List.mem_of_getElem? (i := 538) (by decide +kernel), List.mem_of_getElem? (i := 539) (by decide +kernel)⟩
theorem lw_p28 : lw_okq (⟨"NextPathsModel", "find", "(II)V"⟩, 28) := ⟨⟨by decide +kernel, by decide +kernel⟩, List.mem_of_getElem? (i := 420) (by decide +kernel), List.mem_of_getElem? (i := 550) (by decide +kernel), List.mem_of_getElem? (i := 551) (by decide +kernel)⟩
theorem lw_p29 : lw_okq (⟨"NextPathsModel", "keep", "(I)V"⟩, 28) := ⟨⟨by decide +kernel, by decide +kernel⟩, List.mem_of_getElem? (i := 420) (by decide +kernel), List.mem_of_getElem? (i := 554) (by decide +kernel), List.mem_of_getElem? (i := 555) (by decide +kernel)⟩
theorem lw_p30 : lw_okq (⟨"NextPathsModel", "isAhead", "(IIJI)Z"⟩, 28) := ⟨⟨by decide +kernel, by decide +kernel⟩, List.mem_of_getElem? (i := 420) (by decide +kernel), List.mem_of_getElem? (i := 558) (by decide +kernel), List.mem_of_getElem? (i := 559) (by decide +kernel)⟩
theorem lw_p31 : lw_okq (⟨"NextPathsModel", "tell", "(I)I"⟩, 28) := ⟨⟨by decide +kernel, by decide +kernel⟩, List.mem_of_getElem? (i := 420) (by decide +kernel), List.mem_of_getElem? (i := 562) (by decide +kernel), List.mem_of_getElem? (i := 563) (by decide +kernel)⟩
def lw_privs_2 : List (MethodName × Nat) := [(⟨"NextPaths$Graph", "secondOf", "(J)I"⟩, 9), (⟨"NextPaths$Flow", "prepare", "(IIZ)V"⟩, 10), (⟨"NextPaths$Flow", "addEdge", "(IIII)V"⟩, 10), (⟨"NextPaths$Flow", "setEdge", "(IIIII)V"⟩, 10), (⟨"NextPaths$Flow", "addPath", "()I"⟩, 10), (⟨"NextPaths$Flow", "measure", "()V"⟩, 10), (⟨"NextPaths$Flow", "tryEdge", "(I)Z"⟩, 10), (⟨"NextPaths$BestPairs", "offer", "(II)V"⟩, 3), (⟨"NextPaths$Graph", "shutArcs", "()I"⟩, 9), (⟨"NextPathsModel", "areTwo", "(II)Z"⟩, 28), (⟨"NextPathsModel", "isNode", "(I)Z"⟩, 28), (⟨"NextPathsModel", "isArc", "(I)Z"⟩, 28), (⟨"NextPathsModel", "find", "(II)V"⟩, 28), (⟨"NextPathsModel", "keep", "(I)V"⟩, 28), (⟨"NextPathsModel", "isAhead", "(IIJI)Z"⟩, 28), (⟨"NextPathsModel", "tell", "(I)I"⟩, 28)]
theorem lw_r2 : ∀ q ∈ lw_privs_2, lw_okq q := List.forall_mem_cons.mpr ⟨lw_p16, List.forall_mem_cons.mpr ⟨lw_p17, List.forall_mem_cons.mpr ⟨lw_p18, List.forall_mem_cons.mpr ⟨lw_p19, List.forall_mem_cons.mpr ⟨lw_p20, List.forall_mem_cons.mpr ⟨lw_p21, List.forall_mem_cons.mpr ⟨lw_p22, List.forall_mem_cons.mpr ⟨lw_p23, List.forall_mem_cons.mpr ⟨lw_p24, List.forall_mem_cons.mpr ⟨lw_p25, List.forall_mem_cons.mpr ⟨lw_p26, List.forall_mem_cons.mpr ⟨lw_p27, List.forall_mem_cons.mpr ⟨lw_p28, List.forall_mem_cons.mpr ⟨lw_p29, List.forall_mem_cons.mpr ⟨lw_p30, List.forall_mem_cons.mpr ⟨lw_p31, fun _ h => absurd h List.not_mem_nil⟩⟩⟩⟩⟩⟩⟩⟩⟩⟩⟩⟩⟩⟩⟩⟩
theorem lw_p32 : lw_okq (⟨"NextPathsModel", "out", "(I)I"⟩, 28) := ⟨⟨by decide +kernel, by decide +kernel⟩, List.mem_of_getElem? (i := 420) (by decide +kernel), List.mem_of_getElem? (i := 578) (by decide +kernel), List.mem_of_getElem? (i := 579) (by decide +kernel)⟩
theorem lw_p33 : lw_okq (⟨"NextPathsModel", "isJoined", "(III)Z"⟩, 28) := ⟨⟨by decide +kernel, by decide +kernel⟩, List.mem_of_getElem? (i := 420) (by decide +kernel), List.mem_of_getElem? (i := 582) (by decide +kernel), List.mem_of_getElem? (i := 583) (by decide +kernel)⟩
theorem lw_p34 : lw_okq (⟨"NextPathsModel", "isBettered", "(I)Z"⟩, 28) := ⟨⟨by decide +kernel, by decide +kernel⟩, List.mem_of_getElem? (i := 420) (by decide +kernel), List.mem_of_getElem? (i := 598) (by decide +kernel), List.mem_of_getElem? (i := 599) (by decide +kernel)⟩
def lw_privs_3 : List (MethodName × Nat) := [(⟨"NextPathsModel", "out", "(I)I"⟩, 28), (⟨"NextPathsModel", "isJoined", "(III)Z"⟩, 28), (⟨"NextPathsModel", "isBettered", "(I)Z"⟩, 28)]
theorem lw_r3 : ∀ q ∈ lw_privs_3, lw_okq q := List.forall_mem_cons.mpr ⟨lw_p32, List.forall_mem_cons.mpr ⟨lw_p33, List.forall_mem_cons.mpr ⟨lw_p34, fun _ h => absurd h List.not_mem_nil⟩⟩⟩
def lw_privs : List (MethodName × Nat) := lw_privs_1 ++ (lw_privs_2 ++ (lw_privs_3))
def lw_tbl : List Cond := k2_sels lw_privs ++ tables_1
theorem lw_privs_ok : ∀ q ∈ lw_privs, lw_okq q := by
  show ∀ q ∈ lw_privs_1 ++ (lw_privs_2 ++ (lw_privs_3)), lw_okq q
  exact List.forall_mem_append.mpr ⟨lw_r1, List.forall_mem_append.mpr ⟨lw_r2, lw_r3⟩⟩
end
section
/-! names: fields, methods, words. By program, out of the printed tables -/
def F_N : u_T := fun k => match k with
  | 0 => ("NextPaths", "graph", "LNextPaths$Graph;", true)
  | 1 => ("NextPaths", "heap", "LNextPaths$PathHeap;", true)
  | 2 => ("NextPaths", "finder", "LNextPaths$PathFinder;", true)
  | 3 => ("NextPaths", "flow", "LNextPaths$Flow;", true)
  | 4 => ("NextPaths", "lastTold", "LNextPaths$ToldPath;", true)
  | _ => ("NextPaths", "lastPairs", "LNextPaths$BestPairs;", true)
def ty_N : Nat → FieldType := fun k => match k with
  | 0 => (.object "NextPaths$Graph")
  | 1 => (.object "NextPaths$PathHeap")
  | 2 => (.object "NextPaths$PathFinder")
  | 3 => (.object "NextPaths$Flow")
  | 4 => (.object "NextPaths$ToldPath")
  | _ => (.object "NextPaths$BestPairs")
theorem n_N : ∀ a, a < 6 → ∀ b, b < 6 → a ≠ b → (F_N a).2.1 ≠ (F_N b).2.1 := by decide +kernel
theorem ty_N_ok : ∀ k, k < 6 → parseFieldDescriptor (F_N k).2.2.1 = some (ty_N k) := by decide +kernel
def F_G : u_T := fun k => match k with
  | 0 => ("NextPaths$Graph", "nodes", "I", false)
  | 1 => ("NextPaths$Graph", "arcs", "I", false)
  | 2 => ("NextPaths$Graph", "from", "[I", true)
  | 3 => ("NextPaths$Graph", "to", "[I", true)
  | 4 => ("NextPaths$Graph", "weight", "[I", true)
  | 5 => ("NextPaths$Graph", "second", "[I", true)
  | 6 => ("NextPaths$Graph", "isShut", "[Z", true)
  | 7 => ("NextPaths$Graph", "leaving", "[[I", true)
  | _ => ("NextPaths$Graph", "leavingSize", "[I", true)
def ty_G : Nat → FieldType := fun k => match k with
  | 0 => .int
  | 1 => .int
  | 2 => (.array .int)
  | 3 => (.array .int)
  | 4 => (.array .int)
  | 5 => (.array .int)
  | 6 => (.array .boolean)
  | 7 => (.array (.array .int))
  | _ => (.array .int)
theorem n_G : ∀ a, a < 9 → ∀ b, b < 9 → a ≠ b → (F_G a).2.1 ≠ (F_G b).2.1 := by decide +kernel
theorem ty_G_ok : ∀ k, k < 9 → parseFieldDescriptor (F_G k).2.2.1 = some (ty_G k) := by decide +kernel
def F_H : u_T := fun k => match k with
  | 0 => ("NextPaths$PathHeap", "paths", "[J", true)
  | _ => ("NextPaths$PathHeap", "size", "I", false)
def ty_H : Nat → FieldType := fun k => match k with
  | 0 => (.array .long)
  | _ => .int
theorem n_H : ∀ a, a < 2 → ∀ b, b < 2 → a ≠ b → (F_H a).2.1 ≠ (F_H b).2.1 := by decide +kernel
theorem ty_H_ok : ∀ k, k < 2 → parseFieldDescriptor (F_H k).2.2.1 = some (ty_H k) := by decide +kernel
def F_P : u_T := fun k => match k with
  | 0 => ("NextPaths$PathFinder", "graph", "LNextPaths$Graph;", true)
  | 1 => ("NextPaths$PathFinder", "heap", "LNextPaths$PathHeap;", true)
  | 2 => ("NextPaths$PathFinder", "been", "[Z", true)
  | 3 => ("NextPaths$PathFinder", "chosen", "[I", true)
  | _ => ("NextPaths$PathFinder", "goal", "I", false)
def ty_P : Nat → FieldType := fun k => match k with
  | 0 => (.object "NextPaths$Graph")
  | 1 => (.object "NextPaths$PathHeap")
  | 2 => (.array .boolean)
  | 3 => (.array .int)
  | _ => .int
theorem n_P : ∀ a, a < 5 → ∀ b, b < 5 → a ≠ b → (F_P a).2.1 ≠ (F_P b).2.1 := by decide +kernel
theorem ty_P_ok : ∀ k, k < 5 → parseFieldDescriptor (F_P k).2.2.1 = some (ty_P k) := by decide +kernel
def F_T : u_T := fun k => match k with
  | 0 => ("NextPaths$ToldPath", "steps", "[I", true)
  | 1 => ("NextPaths$ToldPath", "length", "I", false)
  | 2 => ("NextPaths$ToldPath", "weight", "I", false)
  | _ => ("NextPaths$ToldPath", "second", "I", false)
def ty_T : Nat → FieldType := fun k => match k with
  | 0 => (.array .int)
  | 1 => .int
  | 2 => .int
  | _ => .int
theorem n_T : ∀ a, a < 4 → ∀ b, b < 4 → a ≠ b → (F_T a).2.1 ≠ (F_T b).2.1 := by decide +kernel
theorem ty_T_ok : ∀ k, k < 4 → parseFieldDescriptor (F_T k).2.2.1 = some (ty_T k) := by decide +kernel
def F_B : u_T := fun k => match k with
  | 0 => ("NextPaths$BestPairs", "weights", "[I", true)
  | 1 => ("NextPaths$BestPairs", "seconds", "[I", true)
  | _ => ("NextPaths$BestPairs", "size", "I", false)
def ty_B : Nat → FieldType := fun k => match k with
  | 0 => (.array .int)
  | 1 => (.array .int)
  | _ => .int
theorem n_B : ∀ a, a < 3 → ∀ b, b < 3 → a ≠ b → (F_B a).2.1 ≠ (F_B b).2.1 := by decide +kernel
theorem ty_B_ok : ∀ k, k < 3 → parseFieldDescriptor (F_B k).2.2.1 = some (ty_B k) := by decide +kernel
def F_F : u_T := fun k => match k with
  | 0 => ("NextPaths$Flow", "graph", "LNextPaths$Graph;", true)
  | 1 => ("NextPaths$Flow", "tail", "[I", true)
  | 2 => ("NextPaths$Flow", "head", "[I", true)
  | 3 => ("NextPaths$Flow", "cost", "[I", true)
  | 4 => ("NextPaths$Flow", "room", "[I", true)
  | 5 => ("NextPaths$Flow", "distance", "[I", true)
  | 6 => ("NextPaths$Flow", "lastEdge", "[I", true)
  | 7 => ("NextPaths$Flow", "edges", "I", false)
  | 8 => ("NextPaths$Flow", "source", "I", false)
  | _ => ("NextPaths$Flow", "goal", "I", false)
def ty_F : Nat → FieldType := fun k => match k with
  | 0 => (.object "NextPaths$Graph")
  | 1 => (.array .int)
  | 2 => (.array .int)
  | 3 => (.array .int)
  | 4 => (.array .int)
  | 5 => (.array .int)
  | 6 => (.array .int)
  | 7 => .int
  | 8 => .int
  | _ => .int
theorem n_F : ∀ a, a < 10 → ∀ b, b < 10 → a ≠ b → (F_F a).2.1 ≠ (F_F b).2.1 := by decide +kernel
theorem ty_F_ok : ∀ k, k < 10 → parseFieldDescriptor (F_F k).2.2.1 = some (ty_F k) := by decide +kernel
def F_M : u_T := fun k => match k with
  | 0 => ("NextPathsModel", "nodes", "I", false)
  | 1 => ("NextPathsModel", "arcs", "I", false)
  | 2 => ("NextPathsModel", "from", "[I", true)
  | 3 => ("NextPathsModel", "to", "[I", true)
  | 4 => ("NextPathsModel", "weight", "[I", true)
  | 5 => ("NextPathsModel", "second", "[I", true)
  | 6 => ("NextPathsModel", "isShut", "[Z", true)
  | 7 => ("NextPathsModel", "paths", "I", false)
  | 8 => ("NextPathsModel", "weights", "[I", true)
  | 9 => ("NextPathsModel", "seconds", "[I", true)
  | 10 => ("NextPathsModel", "rows", "[J", true)
  | 11 => ("NextPathsModel", "lengths", "[I", true)
  | 12 => ("NextPathsModel", "arcSets", "[I", true)
  | 13 => ("NextPathsModel", "nodeSets", "[I", true)
  | 14 => ("NextPathsModel", "isTold", "Z", false)
  | 15 => ("NextPathsModel", "toldWeight", "I", false)
  | 16 => ("NextPathsModel", "toldSecond", "I", false)
  | 17 => ("NextPathsModel", "toldLength", "I", false)
  | 18 => ("NextPathsModel", "toldRow", "J", false)
  | 19 => ("NextPathsModel", "found", "I", false)
  | 20 => ("NextPathsModel", "foundWeight", "[I", true)
  | 21 => ("NextPathsModel", "foundSecond", "[I", true)
  | 22 => ("NextPathsModel", "tried", "[I", true)
  | 23 => ("NextPathsModel", "stands", "[I", true)
  | 24 => ("NextPathsModel", "chosen", "[I", true)
  | 25 => ("NextPathsModel", "sums", "[I", true)
  | 26 => ("NextPathsModel", "usedArcs", "[I", true)
  | _ => ("NextPathsModel", "usedNodes", "[I", true)
def ty_M : Nat → FieldType := fun k => match k with
  | 0 => .int
  | 1 => .int
  | 2 => (.array .int)
  | 3 => (.array .int)
  | 4 => (.array .int)
  | 5 => (.array .int)
  | 6 => (.array .boolean)
  | 7 => .int
  | 8 => (.array .int)
  | 9 => (.array .int)
  | 10 => (.array .long)
  | 11 => (.array .int)
  | 12 => (.array .int)
  | 13 => (.array .int)
  | 14 => .boolean
  | 15 => .int
  | 16 => .int
  | 17 => .int
  | 18 => .long
  | 19 => .int
  | 20 => (.array .int)
  | 21 => (.array .int)
  | 22 => (.array .int)
  | 23 => (.array .int)
  | 24 => (.array .int)
  | 25 => (.array .int)
  | 26 => (.array .int)
  | _ => (.array .int)
theorem n_M : ∀ a, a < 28 → ∀ b, b < 28 → a ≠ b → (F_M a).2.1 ≠ (F_M b).2.1 := by decide +kernel
theorem ty_M_ok : ∀ k, k < 28 → parseFieldDescriptor (F_M k).2.2.1 = some (ty_M k) := by decide +kernel
abbrev cls : List vw_C := [("NextPaths", F_N, 6), ("NextPaths$Graph", F_G, 9), ("NextPaths$PathHeap", F_H, 2), ("NextPaths$PathFinder", F_P, 5), ("NextPaths$ToldPath", F_T, 4), ("NextPaths$BestPairs", F_B, 3), ("NextPaths$Flow", F_F, 10), ("NextPathsModel", F_M, 28)]
def TT : List Cond := lw_tbl.filter (fun w => goodWord w)
def isNest : Cond → Bool
  | .fieldLinkNest .. => true
  | .methodLinkNest .. => true
  | _ => false
def NN : List Cond := lw_tbl.filter isNest
theorem nn_mem {w : Cond} (h : w ∈ lw_tbl) (hg : isNest w = true) : w ∈ NN := List.mem_filter.mpr ⟨h, hg⟩
theorem nn_on {w : Cond} (h : w ∈ NN) : w.onTables = true := by
  have h2 := (List.mem_filter.mp h).2
  cases w <;> first | rfl | (exact absurd h2 (by decide)) | cases h2
/-- what the tables say of the private members of a nest -/
def NW (U : State) : Prop := ∀ w ∈ NN, va_Nw w U
theorem NW.warm {s U : State} (hW : s.WarmedH U.vm) (h : NW s) : NW U := fun w hw => by
  have h1 := h w hw
  have h2 := (List.mem_filter.mp hw).2
  cases w with
  | fieldLinkNest a i b n d h => exact va_Nw.warmF hW h1
  | methodLinkNest a i x h => exact va_Nw.warmM hW h1
  | _ => cases h2
theorem NW.same {u U : State} (h : u.vm = U.vm) (hN : NW u) : NW U := fun w hw => va_Nw.same (nn_on hw) h (hN w hw)
theorem NW.of {args : Array Value} {s : State} (h : ∀ w ∈ lw_tbl, w.before args s = true) : NW s := fun w hw => va_Nw.of (nn_on hw) (h w (List.mem_filter.mp hw).1)
theorem tm {w : Cond} (h : w ∈ lw_tbl) (hg : goodWord w = true) : w ∈ TT := List.mem_filter.mpr ⟨h, hg⟩
theorem tt_hts {args : Array Value} {s : State} (h : ∀ w ∈ lw_tbl, w.before args s = true) : ∀ w ∈ TT, w.before args s = true := fun w hw => h w (List.mem_filter.mp hw).1
theorem gd_in {c0 : Cond} {y : MethodName} {b : ByteArray} {m : Nat} {r : Option FieldType} (h : Cond.code y b m r ∈ TT) : GoodIn (c0 :: TT) (Cond.code y b m r :: TT) := fun w hw => by
  have hm : w ∈ TT := (List.mem_cons.mp hw).elim (fun e => e ▸ h) id
  exact ⟨List.mem_cons_of_mem _ hm, good_of_word (List.mem_filter.mp hm).2⟩
theorem gd_law {y : MethodName} {b : ByteArray} {m : Nat} {r : Option FieldType} (h : Cond.code y b m r ∈ TT) : GoodIn TT (Cond.code y b m r :: TT) := fun w hw => by
  have hm : w ∈ TT := (List.mem_cons.mp hw).elim (fun e => e ▸ h) id
  exact ⟨hm, good_of_word (List.mem_filter.mp hm).2⟩
theorem i_N : ∀ w ∈ u_ws "NextPaths" F_N 6, w ∈ TT := fun w h => tm ((show ∀ w ∈ u_ws "NextPaths" F_N 6, w ∈ lw_tbl by decide +kernel) w h) ((show ∀ w ∈ u_ws "NextPaths" F_N 6, goodWord w = true by decide +kernel) w h)
theorem i_G : ∀ w ∈ u_ws "NextPaths$Graph" F_G 9, w ∈ TT := fun w h => tm ((show ∀ w ∈ u_ws "NextPaths$Graph" F_G 9, w ∈ lw_tbl by decide +kernel) w h) ((show ∀ w ∈ u_ws "NextPaths$Graph" F_G 9, goodWord w = true by decide +kernel) w h)
theorem i_H : ∀ w ∈ u_ws "NextPaths$PathHeap" F_H 2, w ∈ TT := fun w h => tm ((show ∀ w ∈ u_ws "NextPaths$PathHeap" F_H 2, w ∈ lw_tbl by decide +kernel) w h) ((show ∀ w ∈ u_ws "NextPaths$PathHeap" F_H 2, goodWord w = true by decide +kernel) w h)
theorem i_P : ∀ w ∈ u_ws "NextPaths$PathFinder" F_P 5, w ∈ TT := fun w h => tm ((show ∀ w ∈ u_ws "NextPaths$PathFinder" F_P 5, w ∈ lw_tbl by decide +kernel) w h) ((show ∀ w ∈ u_ws "NextPaths$PathFinder" F_P 5, goodWord w = true by decide +kernel) w h)
theorem i_T : ∀ w ∈ u_ws "NextPaths$ToldPath" F_T 4, w ∈ TT := fun w h => tm ((show ∀ w ∈ u_ws "NextPaths$ToldPath" F_T 4, w ∈ lw_tbl by decide +kernel) w h) ((show ∀ w ∈ u_ws "NextPaths$ToldPath" F_T 4, goodWord w = true by decide +kernel) w h)
theorem i_B : ∀ w ∈ u_ws "NextPaths$BestPairs" F_B 3, w ∈ TT := fun w h => tm ((show ∀ w ∈ u_ws "NextPaths$BestPairs" F_B 3, w ∈ lw_tbl by decide +kernel) w h) ((show ∀ w ∈ u_ws "NextPaths$BestPairs" F_B 3, goodWord w = true by decide +kernel) w h)
theorem i_F : ∀ w ∈ u_ws "NextPaths$Flow" F_F 10, w ∈ TT := fun w h => tm ((show ∀ w ∈ u_ws "NextPaths$Flow" F_F 10, w ∈ lw_tbl by decide +kernel) w h) ((show ∀ w ∈ u_ws "NextPaths$Flow" F_F 10, goodWord w = true by decide +kernel) w h)
theorem i_M : ∀ w ∈ u_ws "NextPathsModel" F_M 28, w ∈ TT := fun w h => tm ((show ∀ w ∈ u_ws "NextPathsModel" F_M 28, w ∈ lw_tbl by decide +kernel) w h) ((show ∀ w ∈ u_ws "NextPathsModel" F_M 28, goodWord w = true by decide +kernel) w h)
abbrev b_N_init : ByteArray := prog_1_method_1_code
abbrev y_N_init : MethodName := ⟨"NextPaths", "<init>", "()V"⟩
def w_N_init : List Cond := .code y_N_init b_N_init 1 none :: TT
set_option maxRecDepth 100000 in
theorem kc_N_init : Cond.code y_N_init b_N_init 1 none ∈ TT := tm (List.mem_append_right _ (List.mem_of_getElem? (i := 15) (by rfl))) rfl
abbrev b_N_clear : ByteArray := prog_1_method_2_code
abbrev y_N_clear : MethodName := ⟨"NextPaths", "clear", "()I"⟩
def w_N_clear : List Cond := .code y_N_clear b_N_clear 2 (some .int) :: TT
set_option maxRecDepth 100000 in
theorem kc_N_clear : Cond.code y_N_clear b_N_clear 2 (some .int) ∈ TT := tm (List.mem_append_right _ (List.mem_of_getElem? (i := 213) (by rfl))) rfl
abbrev b_N_node : ByteArray := prog_1_method_3_code
abbrev y_N_node : MethodName := ⟨"NextPaths", "node", "()I"⟩
def w_N_node : List Cond := .code y_N_node b_N_node 1 (some .int) :: TT
set_option maxRecDepth 100000 in
theorem kc_N_node : Cond.code y_N_node b_N_node 1 (some .int) ∈ TT := tm (List.mem_append_right _ (List.mem_of_getElem? (i := 232) (by rfl))) rfl
abbrev b_N_arc : ByteArray := prog_1_method_4_code
abbrev y_N_arc : MethodName := ⟨"NextPaths", "arc", "(IIII)I"⟩
def w_N_arc : List Cond := .code y_N_arc b_N_arc 5 (some .int) :: TT
set_option maxRecDepth 100000 in
theorem kc_N_arc : Cond.code y_N_arc b_N_arc 5 (some .int) ∈ TT := tm (List.mem_append_right _ (List.mem_of_getElem? (i := 240) (by rfl))) rfl
abbrev b_N_change : ByteArray := prog_1_method_5_code
abbrev y_N_change : MethodName := ⟨"NextPaths", "change", "(III)I"⟩
def w_N_change : List Cond := .code y_N_change b_N_change 5 (some .int) :: TT
set_option maxRecDepth 100000 in
theorem kc_N_change : Cond.code y_N_change b_N_change 5 (some .int) ∈ TT := tm (List.mem_append_right _ (List.mem_of_getElem? (i := 263) (by rfl))) rfl
abbrev b_N_shut : ByteArray := prog_1_method_6_code
abbrev y_N_shut : MethodName := ⟨"NextPaths", "shut", "(IZ)I"⟩
def w_N_shut : List Cond := .code y_N_shut b_N_shut 4 (some .int) :: TT
set_option maxRecDepth 100000 in
theorem kc_N_shut : Cond.code y_N_shut b_N_shut 4 (some .int) ∈ TT := tm (List.mem_append_right _ (List.mem_of_getElem? (i := 271) (by rfl))) rfl
abbrev b_N_next : ByteArray := prog_1_method_7_code
abbrev y_N_next : MethodName := ⟨"NextPaths", "next", "(III)I"⟩
def w_N_next : List Cond := .code y_N_next b_N_next 5 (some .int) :: TT
set_option maxRecDepth 100000 in
theorem kc_N_next : Cond.code y_N_next b_N_next 5 (some .int) ∈ TT := tm (List.mem_append_right _ (List.mem_of_getElem? (i := 275) (by rfl))) rfl
abbrev b_N_count : ByteArray := prog_1_method_8_code
abbrev y_N_count : MethodName := ⟨"NextPaths", "count", "(II)I"⟩
def w_N_count : List Cond := .code y_N_count b_N_count 3 (some .int) :: TT
set_option maxRecDepth 100000 in
theorem kc_N_count : Cond.code y_N_count b_N_count 3 (some .int) ∈ TT := tm (List.mem_append_right _ (List.mem_of_getElem? (i := 340) (by rfl))) rfl
abbrev b_N_apart : ByteArray := prog_1_method_9_code
abbrev y_N_apart : MethodName := ⟨"NextPaths", "apart", "(IIII)I"⟩
def w_N_apart : List Cond := .code y_N_apart b_N_apart 8 (some .int) :: TT
set_option maxRecDepth 100000 in
theorem kc_N_apart : Cond.code y_N_apart b_N_apart 8 (some .int) ∈ TT := tm (List.mem_append_right _ (List.mem_of_getElem? (i := 344) (by rfl))) rfl
abbrev b_N_most : ByteArray := prog_1_method_10_code
abbrev y_N_most : MethodName := ⟨"NextPaths", "most", "(III)I"⟩
def w_N_most : List Cond := .code y_N_most b_N_most 5 (some .int) :: TT
set_option maxRecDepth 100000 in
theorem kc_N_most : Cond.code y_N_most b_N_most 5 (some .int) ∈ TT := tm (List.mem_append_right _ (List.mem_of_getElem? (i := 380) (by rfl))) rfl
abbrev b_N_within : ByteArray := prog_1_method_11_code
abbrev y_N_within : MethodName := ⟨"NextPaths", "within", "(III)I"⟩
def w_N_within : List Cond := .code y_N_within b_N_within 7 (some .int) :: TT
set_option maxRecDepth 100000 in
theorem kc_N_within : Cond.code y_N_within b_N_within 7 (some .int) ∈ TT := tm (List.mem_append_right _ (List.mem_of_getElem? (i := 384) (by rfl))) rfl
abbrev b_N_pairs : ByteArray := prog_1_method_12_code
abbrev y_N_pairs : MethodName := ⟨"NextPaths", "pairs", "(II)I"⟩
def w_N_pairs : List Cond := .code y_N_pairs b_N_pairs 6 (some .int) :: TT
set_option maxRecDepth 100000 in
theorem kc_N_pairs : Cond.code y_N_pairs b_N_pairs 6 (some .int) ∈ TT := tm (List.mem_append_right _ (List.mem_of_getElem? (i := 389) (by rfl))) rfl
abbrev b_N_pair : ByteArray := prog_1_method_13_code
abbrev y_N_pair : MethodName := ⟨"NextPaths", "pair", "(II)I"⟩
def w_N_pair : List Cond := .code y_N_pair b_N_pair 3 (some .int) :: TT
set_option maxRecDepth 100000 in
theorem kc_N_pair : Cond.code y_N_pair b_N_pair 3 (some .int) ∈ TT := tm (List.mem_append_right _ (List.mem_of_getElem? (i := 398) (by rfl))) rfl
abbrev b_N_step : ByteArray := prog_1_method_14_code
abbrev y_N_step : MethodName := ⟨"NextPaths", "step", "(I)I"⟩
def w_N_step : List Cond := .code y_N_step b_N_step 2 (some .int) :: TT
set_option maxRecDepth 100000 in
theorem kc_N_step : Cond.code y_N_step b_N_step 2 (some .int) ∈ TT := tm (List.mem_append_right _ (List.mem_of_getElem? (i := 402) (by rfl))) rfl
abbrev b_N_sum : ByteArray := prog_1_method_15_code
abbrev y_N_sum : MethodName := ⟨"NextPaths", "sum", "(I)I"⟩
def w_N_sum : List Cond := .code y_N_sum b_N_sum 2 (some .int) :: TT
set_option maxRecDepth 100000 in
theorem kc_N_sum : Cond.code y_N_sum b_N_sum 2 (some .int) ∈ TT := tm (List.mem_append_right _ (List.mem_of_getElem? (i := 406) (by rfl))) rfl
abbrev b_N_told : ByteArray := prog_1_method_16_code
abbrev y_N_told : MethodName := ⟨"NextPaths", "told", "(II)I"⟩
def w_N_told : List Cond := .code y_N_told b_N_told 3 (some .int) :: TT
set_option maxRecDepth 100000 in
theorem kc_N_told : Cond.code y_N_told b_N_told 3 (some .int) ∈ TT := tm (List.mem_append_right _ (List.mem_of_getElem? (i := 410) (by rfl))) rfl
abbrev b_N_of : ByteArray := prog_1_method_17_code
abbrev y_N_of : MethodName := ⟨"NextPaths", "of", "(I)I"⟩
def w_N_of : List Cond := .code y_N_of b_N_of 2 (some .int) :: TT
set_option maxRecDepth 100000 in
theorem kc_N_of : Cond.code y_N_of b_N_of 2 (some .int) ∈ TT := tm (List.mem_append_right _ (List.mem_of_getElem? (i := 414) (by rfl))) rfl
abbrev b_N_liesIn : ByteArray := prog_1_method_18_code
abbrev y_N_liesIn : MethodName := ⟨"NextPaths", "liesIn", "(III)Z"⟩
def w_N_liesIn : List Cond := .code y_N_liesIn b_N_liesIn 3 (some .boolean) :: TT
set_option maxRecDepth 100000 in
theorem kc_N_liesIn : Cond.code y_N_liesIn b_N_liesIn 3 (some .boolean) ∈ TT := tm (List.mem_append_right _ (List.mem_of_getElem? (i := 251) (by rfl))) rfl
abbrev b_N_isWeight : ByteArray := prog_1_method_19_code
abbrev y_N_isWeight : MethodName := ⟨"NextPaths", "isWeight", "(I)Z"⟩
def w_N_isWeight : List Cond := .code y_N_isWeight b_N_isWeight 1 (some .boolean) :: TT
set_option maxRecDepth 100000 in
theorem kc_N_isWeight : Cond.code y_N_isWeight b_N_isWeight 1 (some .boolean) ∈ TT := tm (List.mem_append_right _ (List.mem_of_getElem? (i := 254) (by rfl))) rfl
abbrev b_M_init : ByteArray := prog_10_method_1_code
abbrev y_M_init : MethodName := ⟨"NextPathsModel", "<init>", "()V"⟩
def w_M_init : List Cond := .code y_M_init b_M_init 1 none :: TT
set_option maxRecDepth 100000 in
theorem kc_M_init : Cond.code y_M_init b_M_init 1 none ∈ TT := tm (List.mem_append_right _ (List.mem_of_getElem? (i := 423) (by rfl))) rfl
abbrev b_M_clear : ByteArray := prog_10_method_2_code
abbrev y_M_clear : MethodName := ⟨"NextPathsModel", "clear", "()I"⟩
def w_M_clear : List Cond := .code y_M_clear b_M_clear 2 (some .int) :: TT
set_option maxRecDepth 100000 in
theorem kc_M_clear : Cond.code y_M_clear b_M_clear 2 (some .int) ∈ TT := tm (List.mem_append_right _ (List.mem_of_getElem? (i := 513) (by rfl))) rfl
abbrev b_M_isIn : ByteArray := prog_10_method_3_code
abbrev y_M_isIn : MethodName := ⟨"NextPathsModel", "isIn", "(III)Z"⟩
def w_M_isIn : List Cond := .code y_M_isIn b_M_isIn 3 (some .boolean) :: TT
set_option maxRecDepth 100000 in
theorem kc_M_isIn : Cond.code y_M_isIn b_M_isIn 3 (some .boolean) ∈ TT := tm (List.mem_append_right _ (List.mem_of_getElem? (i := 532) (by rfl))) rfl
abbrev b_M_isNode : ByteArray := prog_10_method_4_code
abbrev y_M_isNode : MethodName := ⟨"NextPathsModel", "isNode", "(I)Z"⟩
def w_M_isNode : List Cond := .code y_M_isNode b_M_isNode 2 (some .boolean) :: TT
set_option maxRecDepth 100000 in
theorem kc_M_isNode : Cond.code y_M_isNode b_M_isNode 2 (some .boolean) ∈ TT := tm (List.mem_append_right _ (List.mem_of_getElem? (i := 529) (by rfl))) rfl
abbrev b_M_isArc : ByteArray := prog_10_method_5_code
abbrev y_M_isArc : MethodName := ⟨"NextPathsModel", "isArc", "(I)Z"⟩
def w_M_isArc : List Cond := .code y_M_isArc b_M_isArc 2 (some .boolean) :: TT
set_option maxRecDepth 100000 in
theorem kc_M_isArc : Cond.code y_M_isArc b_M_isArc 2 (some .boolean) ∈ TT := tm (List.mem_append_right _ (List.mem_of_getElem? (i := 540) (by rfl))) rfl
abbrev b_M_areTwo : ByteArray := prog_10_method_6_code
abbrev y_M_areTwo : MethodName := ⟨"NextPathsModel", "areTwo", "(II)Z"⟩
def w_M_areTwo : List Cond := .code y_M_areTwo b_M_areTwo 3 (some .boolean) :: TT
set_option maxRecDepth 100000 in
theorem kc_M_areTwo : Cond.code y_M_areTwo b_M_areTwo 3 (some .boolean) ∈ TT := tm (List.mem_append_right _ (List.mem_of_getElem? (i := 525) (by rfl))) rfl
abbrev b_M_node : ByteArray := prog_10_method_7_code
abbrev y_M_node : MethodName := ⟨"NextPathsModel", "node", "()I"⟩
def w_M_node : List Cond := .code y_M_node b_M_node 1 (some .int) :: TT
set_option maxRecDepth 100000 in
theorem kc_M_node : Cond.code y_M_node b_M_node 1 (some .int) ∈ TT := tm (List.mem_append_right _ (List.mem_of_getElem? (i := 517) (by rfl))) rfl
abbrev b_M_arc : ByteArray := prog_10_method_8_code
abbrev y_M_arc : MethodName := ⟨"NextPathsModel", "arc", "(IIII)I"⟩
def w_M_arc : List Cond := .code y_M_arc b_M_arc 5 (some .int) :: TT
set_option maxRecDepth 100000 in
theorem kc_M_arc : Cond.code y_M_arc b_M_arc 5 (some .int) ∈ TT := tm (List.mem_append_right _ (List.mem_of_getElem? (i := 521) (by rfl))) rfl
abbrev b_M_change : ByteArray := prog_10_method_9_code
abbrev y_M_change : MethodName := ⟨"NextPathsModel", "change", "(III)I"⟩
def w_M_change : List Cond := .code y_M_change b_M_change 5 (some .int) :: TT
set_option maxRecDepth 100000 in
theorem kc_M_change : Cond.code y_M_change b_M_change 5 (some .int) ∈ TT := tm (List.mem_append_right _ (List.mem_of_getElem? (i := 536) (by rfl))) rfl
abbrev b_M_shut : ByteArray := prog_10_method_10_code
abbrev y_M_shut : MethodName := ⟨"NextPathsModel", "shut", "(IZ)I"⟩
def w_M_shut : List Cond := .code y_M_shut b_M_shut 4 (some .int) :: TT
set_option maxRecDepth 100000 in
theorem kc_M_shut : Cond.code y_M_shut b_M_shut 4 (some .int) ∈ TT := tm (List.mem_append_right _ (List.mem_of_getElem? (i := 544) (by rfl))) rfl
abbrev b_M_find : ByteArray := prog_10_method_11_code
abbrev y_M_find : MethodName := ⟨"NextPathsModel", "find", "(II)V"⟩
def w_M_find : List Cond := .code y_M_find b_M_find 6 none :: TT
set_option maxRecDepth 100000 in
theorem kc_M_find : Cond.code y_M_find b_M_find 6 none ∈ TT := tm (List.mem_append_right _ (List.mem_of_getElem? (i := 552) (by rfl))) rfl
abbrev b_M_keep : ByteArray := prog_10_method_12_code
abbrev y_M_keep : MethodName := ⟨"NextPathsModel", "keep", "(I)V"⟩
def w_M_keep : List Cond := .code y_M_keep b_M_keep 10 none :: TT
set_option maxRecDepth 100000 in
theorem kc_M_keep : Cond.code y_M_keep b_M_keep 10 none ∈ TT := tm (List.mem_append_right _ (List.mem_of_getElem? (i := 556) (by rfl))) rfl
abbrev b_M_isAhead : ByteArray := prog_10_method_13_code
abbrev y_M_isAhead : MethodName := ⟨"NextPathsModel", "isAhead", "(IIJI)Z"⟩
def w_M_isAhead : List Cond := .code y_M_isAhead b_M_isAhead 6 (some .boolean) :: TT
set_option maxRecDepth 100000 in
theorem kc_M_isAhead : Cond.code y_M_isAhead b_M_isAhead 6 (some .boolean) ∈ TT := tm (List.mem_append_right _ (List.mem_of_getElem? (i := 560) (by rfl))) rfl
abbrev b_M_tell : ByteArray := prog_10_method_14_code
abbrev y_M_tell : MethodName := ⟨"NextPathsModel", "tell", "(I)I"⟩
def w_M_tell : List Cond := .code y_M_tell b_M_tell 2 (some .int) :: TT
set_option maxRecDepth 100000 in
theorem kc_M_tell : Cond.code y_M_tell b_M_tell 2 (some .int) ∈ TT := tm (List.mem_append_right _ (List.mem_of_getElem? (i := 564) (by rfl))) rfl
abbrev b_M_next : ByteArray := prog_10_method_15_code
abbrev y_M_next : MethodName := ⟨"NextPathsModel", "next", "(III)I"⟩
def w_M_next : List Cond := .code y_M_next b_M_next 4 (some .int) :: TT
set_option maxRecDepth 100000 in
theorem kc_M_next : Cond.code y_M_next b_M_next 4 (some .int) ∈ TT := tm (List.mem_append_right _ (List.mem_of_getElem? (i := 548) (by rfl))) rfl
abbrev b_M_count : ByteArray := prog_10_method_16_code
abbrev y_M_count : MethodName := ⟨"NextPathsModel", "count", "(II)I"⟩
def w_M_count : List Cond := .code y_M_count b_M_count 3 (some .int) :: TT
set_option maxRecDepth 100000 in
theorem kc_M_count : Cond.code y_M_count b_M_count 3 (some .int) ∈ TT := tm (List.mem_append_right _ (List.mem_of_getElem? (i := 568) (by rfl))) rfl
abbrev b_M_apart : ByteArray := prog_10_method_17_code
abbrev y_M_apart : MethodName := ⟨"NextPathsModel", "apart", "(IIII)I"⟩
def w_M_apart : List Cond := .code y_M_apart b_M_apart 9 (some .int) :: TT
set_option maxRecDepth 100000 in
theorem kc_M_apart : Cond.code y_M_apart b_M_apart 9 (some .int) ∈ TT := tm (List.mem_append_right _ (List.mem_of_getElem? (i := 572) (by rfl))) rfl
abbrev b_M_out : ByteArray := prog_10_method_18_code
abbrev y_M_out : MethodName := ⟨"NextPathsModel", "out", "(I)I"⟩
def w_M_out : List Cond := .code y_M_out b_M_out 4 (some .int) :: TT
set_option maxRecDepth 100000 in
theorem kc_M_out : Cond.code y_M_out b_M_out 4 (some .int) ∈ TT := tm (List.mem_append_right _ (List.mem_of_getElem? (i := 580) (by rfl))) rfl
abbrev b_M_isJoined : ByteArray := prog_10_method_19_code
abbrev y_M_isJoined : MethodName := ⟨"NextPathsModel", "isJoined", "(III)Z"⟩
def w_M_isJoined : List Cond := .code y_M_isJoined b_M_isJoined 8 (some .boolean) :: TT
set_option maxRecDepth 100000 in
theorem kc_M_isJoined : Cond.code y_M_isJoined b_M_isJoined 8 (some .boolean) ∈ TT := tm (List.mem_append_right _ (List.mem_of_getElem? (i := 584) (by rfl))) rfl
abbrev b_M_many : ByteArray := prog_10_method_20_code
abbrev y_M_many : MethodName := ⟨"NextPathsModel", "many", "(I)I"⟩
def w_M_many : List Cond := .code y_M_many b_M_many 3 (some .int) :: TT
set_option maxRecDepth 100000 in
theorem kc_M_many : Cond.code y_M_many b_M_many 3 (some .int) ∈ TT := tm (List.mem_append_right _ (List.mem_of_getElem? (i := 587) (by rfl))) rfl
abbrev b_M_most : ByteArray := prog_10_method_21_code
abbrev y_M_most : MethodName := ⟨"NextPathsModel", "most", "(III)I"⟩
def w_M_most : List Cond := .code y_M_most b_M_most 7 (some .int) :: TT
set_option maxRecDepth 100000 in
theorem kc_M_most : Cond.code y_M_most b_M_most 7 (some .int) ∈ TT := tm (List.mem_append_right _ (List.mem_of_getElem? (i := 576) (by rfl))) rfl
abbrev b_M_within : ByteArray := prog_10_method_22_code
abbrev y_M_within : MethodName := ⟨"NextPathsModel", "within", "(III)I"⟩
def w_M_within : List Cond := .code y_M_within b_M_within 5 (some .int) :: TT
set_option maxRecDepth 100000 in
theorem kc_M_within : Cond.code y_M_within b_M_within 5 (some .int) ∈ TT := tm (List.mem_append_right _ (List.mem_of_getElem? (i := 592) (by rfl))) rfl
abbrev b_M_isBettered : ByteArray := prog_10_method_23_code
abbrev y_M_isBettered : MethodName := ⟨"NextPathsModel", "isBettered", "(I)Z"⟩
def w_M_isBettered : List Cond := .code y_M_isBettered b_M_isBettered 5 (some .boolean) :: TT
set_option maxRecDepth 100000 in
theorem kc_M_isBettered : Cond.code y_M_isBettered b_M_isBettered 5 (some .boolean) ∈ TT := tm (List.mem_append_right _ (List.mem_of_getElem? (i := 600) (by rfl))) rfl
abbrev b_M_pairs : ByteArray := prog_10_method_24_code
abbrev y_M_pairs : MethodName := ⟨"NextPathsModel", "pairs", "(II)I"⟩
def w_M_pairs : List Cond := .code y_M_pairs b_M_pairs 5 (some .int) :: TT
set_option maxRecDepth 100000 in
theorem kc_M_pairs : Cond.code y_M_pairs b_M_pairs 5 (some .int) ∈ TT := tm (List.mem_append_right _ (List.mem_of_getElem? (i := 596) (by rfl))) rfl
abbrev b_M_pair : ByteArray := prog_10_method_25_code
abbrev y_M_pair : MethodName := ⟨"NextPathsModel", "pair", "(II)I"⟩
def w_M_pair : List Cond := .code y_M_pair b_M_pair 3 (some .int) :: TT
set_option maxRecDepth 100000 in
theorem kc_M_pair : Cond.code y_M_pair b_M_pair 3 (some .int) ∈ TT := tm (List.mem_append_right _ (List.mem_of_getElem? (i := 604) (by rfl))) rfl
abbrev b_M_step : ByteArray := prog_10_method_26_code
abbrev y_M_step : MethodName := ⟨"NextPathsModel", "step", "(I)I"⟩
def w_M_step : List Cond := .code y_M_step b_M_step 2 (some .int) :: TT
set_option maxRecDepth 100000 in
theorem kc_M_step : Cond.code y_M_step b_M_step 2 (some .int) ∈ TT := tm (List.mem_append_right _ (List.mem_of_getElem? (i := 608) (by rfl))) rfl
abbrev b_M_sum : ByteArray := prog_10_method_27_code
abbrev y_M_sum : MethodName := ⟨"NextPathsModel", "sum", "(I)I"⟩
def w_M_sum : List Cond := .code y_M_sum b_M_sum 2 (some .int) :: TT
set_option maxRecDepth 100000 in
theorem kc_M_sum : Cond.code y_M_sum b_M_sum 2 (some .int) ∈ TT := tm (List.mem_append_right _ (List.mem_of_getElem? (i := 613) (by rfl))) rfl
abbrev b_M_told : ByteArray := prog_10_method_28_code
abbrev y_M_told : MethodName := ⟨"NextPathsModel", "told", "(II)I"⟩
def w_M_told : List Cond := .code y_M_told b_M_told 3 (some .int) :: TT
set_option maxRecDepth 100000 in
theorem kc_M_told : Cond.code y_M_told b_M_told 3 (some .int) ∈ TT := tm (List.mem_append_right _ (List.mem_of_getElem? (i := 617) (by rfl))) rfl
abbrev b_M_of : ByteArray := prog_10_method_29_code
abbrev y_M_of : MethodName := ⟨"NextPathsModel", "of", "(I)I"⟩
def w_M_of : List Cond := .code y_M_of b_M_of 4 (some .int) :: TT
set_option maxRecDepth 100000 in
theorem kc_M_of : Cond.code y_M_of b_M_of 4 (some .int) ∈ TT := tm (List.mem_append_right _ (List.mem_of_getElem? (i := 621) (by rfl))) rfl
abbrev b_B_init : ByteArray := prog_2_method_1_code
abbrev y_B_init : MethodName := ⟨"NextPaths$BestPairs", "<init>", "()V"⟩
def w_B_init : List Cond := .code y_B_init b_B_init 1 none :: TT
set_option maxRecDepth 100000 in
theorem kc_B_init : Cond.code y_B_init b_B_init 1 none ∈ TT := tm (List.mem_append_right _ (List.mem_of_getElem? (i := 176) (by rfl))) rfl
abbrev b_B_empty : ByteArray := prog_2_method_2_code
abbrev y_B_empty : MethodName := ⟨"NextPaths$BestPairs", "empty", "()V"⟩
def w_B_empty : List Cond := .code y_B_empty b_B_empty 1 none :: TT
set_option maxRecDepth 100000 in
theorem kc_B_empty : Cond.code y_B_empty b_B_empty 1 none ∈ TT := tm (List.mem_append_right _ (List.mem_of_getElem? (i := 228) (by rfl))) rfl
abbrev b_B_offer : ByteArray := prog_2_method_3_code
abbrev y_B_offer : MethodName := ⟨"NextPaths$BestPairs", "offer", "(II)V"⟩
def w_B_offer : List Cond := .code y_B_offer b_B_offer 3 none :: TT
set_option maxRecDepth 100000 in
theorem kc_B_offer : Cond.code y_B_offer b_B_offer 3 none ∈ TT := tm (List.mem_append_right _ (List.mem_of_getElem? (i := 394) (by rfl))) rfl
abbrev b_F_init : ByteArray := prog_3_method_1_code
abbrev y_F_init : MethodName := ⟨"NextPaths$Flow", "<init>", "(LNextPaths$Graph;)V"⟩
def w_F_init : List Cond := .code y_F_init b_F_init 2 none :: TT
set_option maxRecDepth 100000 in
theorem kc_F_init : Cond.code y_F_init b_F_init 2 none ∈ TT := tm (List.mem_append_right _ (List.mem_of_getElem? (i := 116) (by rfl))) rfl
abbrev b_F_entry : ByteArray := prog_3_method_2_code
abbrev y_F_entry : MethodName := ⟨"NextPaths$Flow", "entry", "(I)I"⟩
def w_F_entry : List Cond := .code y_F_entry b_F_entry 1 (some .int) :: TT
set_option maxRecDepth 100000 in
theorem kc_F_entry : Cond.code y_F_entry b_F_entry 1 (some .int) ∈ TT := tm (List.mem_append_right _ (List.mem_of_getElem? (i := 354) (by rfl))) rfl
abbrev b_F_exit : ByteArray := prog_3_method_3_code
abbrev y_F_exit : MethodName := ⟨"NextPaths$Flow", "exit", "(I)I"⟩
def w_F_exit : List Cond := .code y_F_exit b_F_exit 1 (some .int) :: TT
set_option maxRecDepth 100000 in
theorem kc_F_exit : Cond.code y_F_exit b_F_exit 1 (some .int) ∈ TT := tm (List.mem_append_right _ (List.mem_of_getElem? (i := 351) (by rfl))) rfl
abbrev b_F_prepare : ByteArray := prog_3_method_4_code
abbrev y_F_prepare : MethodName := ⟨"NextPaths$Flow", "prepare", "(IIZ)V"⟩
def w_F_prepare : List Cond := .code y_F_prepare b_F_prepare 5 none :: TT
set_option maxRecDepth 100000 in
theorem kc_F_prepare : Cond.code y_F_prepare b_F_prepare 5 none ∈ TT := tm (List.mem_append_right _ (List.mem_of_getElem? (i := 348) (by rfl))) rfl
abbrev b_F_addEdge : ByteArray := prog_3_method_5_code
abbrev y_F_addEdge : MethodName := ⟨"NextPaths$Flow", "addEdge", "(IIII)V"⟩
def w_F_addEdge : List Cond := .code y_F_addEdge b_F_addEdge 5 none :: TT
set_option maxRecDepth 100000 in
theorem kc_F_addEdge : Cond.code y_F_addEdge b_F_addEdge 5 none ∈ TT := tm (List.mem_append_right _ (List.mem_of_getElem? (i := 358) (by rfl))) rfl
abbrev b_F_setEdge : ByteArray := prog_3_method_6_code
abbrev y_F_setEdge : MethodName := ⟨"NextPaths$Flow", "setEdge", "(IIIII)V"⟩
def w_F_setEdge : List Cond := .code y_F_setEdge b_F_setEdge 6 none :: TT
set_option maxRecDepth 100000 in
theorem kc_F_setEdge : Cond.code y_F_setEdge b_F_setEdge 6 none ∈ TT := tm (List.mem_append_right _ (List.mem_of_getElem? (i := 362) (by rfl))) rfl
abbrev b_F_addPath : ByteArray := prog_3_method_7_code
abbrev y_F_addPath : MethodName := ⟨"NextPaths$Flow", "addPath", "()I"⟩
def w_F_addPath : List Cond := .code y_F_addPath b_F_addPath 4 (some .int) :: TT
set_option maxRecDepth 100000 in
theorem kc_F_addPath : Cond.code y_F_addPath b_F_addPath 4 (some .int) ∈ TT := tm (List.mem_append_right _ (List.mem_of_getElem? (i := 366) (by rfl))) rfl
abbrev b_F_measure : ByteArray := prog_3_method_8_code
abbrev y_F_measure : MethodName := ⟨"NextPaths$Flow", "measure", "()V"⟩
def w_F_measure : List Cond := .code y_F_measure b_F_measure 4 none :: TT
set_option maxRecDepth 100000 in
theorem kc_F_measure : Cond.code y_F_measure b_F_measure 4 none ∈ TT := tm (List.mem_append_right _ (List.mem_of_getElem? (i := 370) (by rfl))) rfl
abbrev b_F_tryEdge : ByteArray := prog_3_method_9_code
abbrev y_F_tryEdge : MethodName := ⟨"NextPaths$Flow", "tryEdge", "(I)Z"⟩
def w_F_tryEdge : List Cond := .code y_F_tryEdge b_F_tryEdge 4 (some .boolean) :: TT
set_option maxRecDepth 100000 in
theorem kc_F_tryEdge : Cond.code y_F_tryEdge b_F_tryEdge 4 (some .boolean) ∈ TT := tm (List.mem_append_right _ (List.mem_of_getElem? (i := 376) (by rfl))) rfl
abbrev b_G_init : ByteArray := prog_4_method_1_code
abbrev y_G_init : MethodName := ⟨"NextPaths$Graph", "<init>", "()V"⟩
def w_G_init : List Cond := .code y_G_init b_G_init 1 none :: TT
set_option maxRecDepth 100000 in
theorem kc_G_init : Cond.code y_G_init b_G_init 1 none ∈ TT := tm (List.mem_append_right _ (List.mem_of_getElem? (i := 23) (by rfl))) rfl
abbrev b_G_empty : ByteArray := prog_4_method_2_code
abbrev y_G_empty : MethodName := ⟨"NextPaths$Graph", "empty", "()V"⟩
def w_G_empty : List Cond := .code y_G_empty b_G_empty 1 none :: TT
set_option maxRecDepth 100000 in
theorem kc_G_empty : Cond.code y_G_empty b_G_empty 1 none ∈ TT := tm (List.mem_append_right _ (List.mem_of_getElem? (i := 217) (by rfl))) rfl
abbrev b_G_isNode : ByteArray := prog_4_method_3_code
abbrev y_G_isNode : MethodName := ⟨"NextPaths$Graph", "isNode", "(I)Z"⟩
def w_G_isNode : List Cond := .code y_G_isNode b_G_isNode 2 (some .boolean) :: TT
set_option maxRecDepth 100000 in
theorem kc_G_isNode : Cond.code y_G_isNode b_G_isNode 2 (some .boolean) ∈ TT := tm (List.mem_append_right _ (List.mem_of_getElem? (i := 248) (by rfl))) rfl
abbrev b_G_areTwoNodes : ByteArray := prog_4_method_4_code
abbrev y_G_areTwoNodes : MethodName := ⟨"NextPaths$Graph", "areTwoNodes", "(II)Z"⟩
def w_G_areTwoNodes : List Cond := .code y_G_areTwoNodes b_G_areTwoNodes 3 (some .boolean) :: TT
set_option maxRecDepth 100000 in
theorem kc_G_areTwoNodes : Cond.code y_G_areTwoNodes b_G_areTwoNodes 3 (some .boolean) ∈ TT := tm (List.mem_append_right _ (List.mem_of_getElem? (i := 244) (by rfl))) rfl
abbrev b_G_isArc : ByteArray := prog_4_method_5_code
abbrev y_G_isArc : MethodName := ⟨"NextPaths$Graph", "isArc", "(I)Z"⟩
def w_G_isArc : List Cond := .code y_G_isArc b_G_isArc 2 (some .boolean) :: TT
set_option maxRecDepth 100000 in
theorem kc_G_isArc : Cond.code y_G_isArc b_G_isArc 2 (some .boolean) ∈ TT := tm (List.mem_append_right _ (List.mem_of_getElem? (i := 267) (by rfl))) rfl
abbrev b_G_addNode : ByteArray := prog_4_method_6_code
abbrev y_G_addNode : MethodName := ⟨"NextPaths$Graph", "addNode", "()I"⟩
def w_G_addNode : List Cond := .code y_G_addNode b_G_addNode 1 (some .int) :: TT
set_option maxRecDepth 100000 in
theorem kc_G_addNode : Cond.code y_G_addNode b_G_addNode 1 (some .int) ∈ TT := tm (List.mem_append_right _ (List.mem_of_getElem? (i := 236) (by rfl))) rfl
abbrev b_G_addArc : ByteArray := prog_4_method_7_code
abbrev y_G_addArc : MethodName := ⟨"NextPaths$Graph", "addArc", "(IIII)I"⟩
def w_G_addArc : List Cond := .code y_G_addArc b_G_addArc 6 (some .int) :: TT
set_option maxRecDepth 100000 in
theorem kc_G_addArc : Cond.code y_G_addArc b_G_addArc 6 (some .int) ∈ TT := tm (List.mem_append_right _ (List.mem_of_getElem? (i := 259) (by rfl))) rfl
abbrev b_G_shutArcs : ByteArray := prog_4_method_8_code
abbrev y_G_shutArcs : MethodName := ⟨"NextPaths$Graph", "shutArcs", "()I"⟩
def w_G_shutArcs : List Cond := .code y_G_shutArcs b_G_shutArcs 3 (some .int) :: TT
set_option maxRecDepth 100000 in
theorem kc_G_shutArcs : Cond.code y_G_shutArcs b_G_shutArcs 3 (some .int) ∈ TT := tm (List.mem_append_right _ (List.mem_of_getElem? (i := 418) (by rfl))) rfl
abbrev b_G_secondOf : ByteArray := prog_4_method_9_code
abbrev y_G_secondOf : MethodName := ⟨"NextPaths$Graph", "secondOf", "(J)I"⟩
def w_G_secondOf : List Cond := .code y_G_secondOf b_G_secondOf 6 (some .int) :: TT
set_option maxRecDepth 100000 in
theorem kc_G_secondOf : Cond.code y_G_secondOf b_G_secondOf 6 (some .int) ∈ TT := tm (List.mem_append_right _ (List.mem_of_getElem? (i := 330) (by rfl))) rfl
abbrev b_C_head : ByteArray := prog_5_method_2_code
abbrev y_C_head : MethodName := ⟨"NextPaths$PathCode", "head", "(II)J"⟩
def w_C_head : List Cond := .code y_C_head b_C_head 2 (some .long) :: TT
set_option maxRecDepth 100000 in
theorem kc_C_head : Cond.code y_C_head b_C_head 2 (some .long) ∈ TT := tm (List.mem_append_right _ (List.mem_of_getElem? (i := 299) (by rfl))) rfl
abbrev b_C_arcAt : ByteArray := prog_5_method_3_code
abbrev y_C_arcAt : MethodName := ⟨"NextPaths$PathCode", "arcAt", "(II)J"⟩
def w_C_arcAt : List Cond := .code y_C_arcAt b_C_arcAt 2 (some .long) :: TT
set_option maxRecDepth 100000 in
theorem kc_C_arcAt : Cond.code y_C_arcAt b_C_arcAt 2 (some .long) ∈ TT := tm (List.mem_append_right _ (List.mem_of_getElem? (i := 293) (by rfl))) rfl
abbrev b_C_weightIn : ByteArray := prog_5_method_4_code
abbrev y_C_weightIn : MethodName := ⟨"NextPaths$PathCode", "weightIn", "(J)I"⟩
def w_C_weightIn : List Cond := .code y_C_weightIn b_C_weightIn 2 (some .int) :: TT
set_option maxRecDepth 100000 in
theorem kc_C_weightIn : Cond.code y_C_weightIn b_C_weightIn 2 (some .int) ∈ TT := tm (List.mem_append_right _ (List.mem_of_getElem? (i := 326) (by rfl))) rfl
abbrev b_C_lengthIn : ByteArray := prog_5_method_5_code
abbrev y_C_lengthIn : MethodName := ⟨"NextPaths$PathCode", "lengthIn", "(J)I"⟩
def w_C_lengthIn : List Cond := .code y_C_lengthIn b_C_lengthIn 2 (some .int) :: TT
set_option maxRecDepth 100000 in
theorem kc_C_lengthIn : Cond.code y_C_lengthIn b_C_lengthIn 2 (some .int) ∈ TT := tm (List.mem_append_right _ (List.mem_of_getElem? (i := 323) (by rfl))) rfl
abbrev b_C_arcIn : ByteArray := prog_5_method_6_code
abbrev y_C_arcIn : MethodName := ⟨"NextPaths$PathCode", "arcIn", "(JI)I"⟩
def w_C_arcIn : List Cond := .code y_C_arcIn b_C_arcIn 3 (some .int) :: TT
set_option maxRecDepth 100000 in
theorem kc_C_arcIn : Cond.code y_C_arcIn b_C_arcIn 3 (some .int) ∈ TT := tm (List.mem_append_right _ (List.mem_of_getElem? (i := 334) (by rfl))) rfl
abbrev b_C_shiftOf : ByteArray := prog_5_method_7_code
abbrev y_C_shiftOf : MethodName := ⟨"NextPaths$PathCode", "shiftOf", "(I)I"⟩
def w_C_shiftOf : List Cond := .code y_C_shiftOf b_C_shiftOf 1 (some .int) :: TT
set_option maxRecDepth 100000 in
theorem kc_C_shiftOf : Cond.code y_C_shiftOf b_C_shiftOf 1 (some .int) ∈ TT := tm (List.mem_append_right _ (List.mem_of_getElem? (i := 296) (by rfl))) rfl
abbrev b_P_init : ByteArray := prog_6_method_1_code
abbrev y_P_init : MethodName := ⟨"NextPaths$PathFinder", "<init>", "(LNextPaths$Graph;LNextPaths$PathHeap;)V"⟩
def w_P_init : List Cond := .code y_P_init b_P_init 3 none :: TT
set_option maxRecDepth 100000 in
theorem kc_P_init : Cond.code y_P_init b_P_init 3 none ∈ TT := tm (List.mem_append_right _ (List.mem_of_getElem? (i := 94) (by rfl))) rfl
abbrev b_P_findAll : ByteArray := prog_6_method_2_code
abbrev y_P_findAll : MethodName := ⟨"NextPaths$PathFinder", "findAll", "(II)V"⟩
def w_P_findAll : List Cond := .code y_P_findAll b_P_findAll 3 none :: TT
set_option maxRecDepth 100000 in
theorem kc_P_findAll : Cond.code y_P_findAll b_P_findAll 3 none ∈ TT := tm (List.mem_append_right _ (List.mem_of_getElem? (i := 279) (by rfl))) rfl
abbrev b_P_walkOn : ByteArray := prog_6_method_3_code
abbrev y_P_walkOn : MethodName := ⟨"NextPaths$PathFinder", "walkOn", "(LNextPaths$PathFinder;II)V"⟩
def w_P_walkOn : List Cond := .code y_P_walkOn b_P_walkOn 6 none :: TT
set_option maxRecDepth 100000 in
theorem kc_P_walkOn : Cond.code y_P_walkOn b_P_walkOn 6 none ∈ TT := tm (List.mem_append_right _ (List.mem_of_getElem? (i := 286) (by rfl))) rfl
abbrev b_P_code : ByteArray := prog_6_method_4_code
abbrev y_P_code : MethodName := ⟨"NextPaths$PathFinder", "code", "(I)J"⟩
def w_P_code : List Cond := .code y_P_code b_P_code 6 (some .long) :: TT
set_option maxRecDepth 100000 in
theorem kc_P_code : Cond.code y_P_code b_P_code 6 (some .long) ∈ TT := tm (List.mem_append_right _ (List.mem_of_getElem? (i := 290) (by rfl))) rfl
abbrev b_H_init : ByteArray := prog_7_method_1_code
abbrev y_H_init : MethodName := ⟨"NextPaths$PathHeap", "<init>", "()V"⟩
def w_H_init : List Cond := .code y_H_init b_H_init 1 none :: TT
set_option maxRecDepth 100000 in
theorem kc_H_init : Cond.code y_H_init b_H_init 1 none ∈ TT := tm (List.mem_append_right _ (List.mem_of_getElem? (i := 79) (by rfl))) rfl
abbrev b_H_empty : ByteArray := prog_7_method_2_code
abbrev y_H_empty : MethodName := ⟨"NextPaths$PathHeap", "empty", "()V"⟩
def w_H_empty : List Cond := .code y_H_empty b_H_empty 1 none :: TT
set_option maxRecDepth 100000 in
theorem kc_H_empty : Cond.code y_H_empty b_H_empty 1 none ∈ TT := tm (List.mem_append_right _ (List.mem_of_getElem? (i := 283) (by rfl))) rfl
abbrev b_H_add : ByteArray := prog_7_method_3_code
abbrev y_H_add : MethodName := ⟨"NextPaths$PathHeap", "add", "(J)V"⟩
def w_H_add : List Cond := .code y_H_add b_H_add 4 none :: TT
set_option maxRecDepth 100000 in
theorem kc_H_add : Cond.code y_H_add b_H_add 4 none ∈ TT := tm (List.mem_append_right _ (List.mem_of_getElem? (i := 303) (by rfl))) rfl
abbrev b_H_takeFirst : ByteArray := prog_7_method_4_code
abbrev y_H_takeFirst : MethodName := ⟨"NextPaths$PathHeap", "takeFirst", "()J"⟩
def w_H_takeFirst : List Cond := .code y_H_takeFirst b_H_takeFirst 3 (some .long) :: TT
set_option maxRecDepth 100000 in
theorem kc_H_takeFirst : Cond.code y_H_takeFirst b_H_takeFirst 3 (some .long) ∈ TT := tm (List.mem_append_right _ (List.mem_of_getElem? (i := 307) (by rfl))) rfl
abbrev b_H_sinkFromTop : ByteArray := prog_7_method_5_code
abbrev y_H_sinkFromTop : MethodName := ⟨"NextPaths$PathHeap", "sinkFromTop", "(J)V"⟩
def w_H_sinkFromTop : List Cond := .code y_H_sinkFromTop b_H_sinkFromTop 5 none :: TT
set_option maxRecDepth 100000 in
theorem kc_H_sinkFromTop : Cond.code y_H_sinkFromTop b_H_sinkFromTop 5 none ∈ TT := tm (List.mem_append_right _ (List.mem_of_getElem? (i := 312) (by rfl))) rfl
abbrev b_H_lesserChild : ByteArray := prog_7_method_6_code
abbrev y_H_lesserChild : MethodName := ⟨"NextPaths$PathHeap", "lesserChild", "(I)I"⟩
def w_H_lesserChild : List Cond := .code y_H_lesserChild b_H_lesserChild 4 (some .int) :: TT
set_option maxRecDepth 100000 in
theorem kc_H_lesserChild : Cond.code y_H_lesserChild b_H_lesserChild 4 (some .int) ∈ TT := tm (List.mem_append_right _ (List.mem_of_getElem? (i := 316) (by rfl))) rfl
abbrev b_T_init : ByteArray := prog_8_method_1_code
abbrev y_T_init : MethodName := ⟨"NextPaths$ToldPath", "<init>", "()V"⟩
def w_T_init : List Cond := .code y_T_init b_T_init 1 none :: TT
set_option maxRecDepth 100000 in
theorem kc_T_init : Cond.code y_T_init b_T_init 1 none ∈ TT := tm (List.mem_append_right _ (List.mem_of_getElem? (i := 153) (by rfl))) rfl
abbrev b_T_empty : ByteArray := prog_8_method_2_code
abbrev y_T_empty : MethodName := ⟨"NextPaths$ToldPath", "empty", "()V"⟩
def w_T_empty : List Cond := .code y_T_empty b_T_empty 1 none :: TT
set_option maxRecDepth 100000 in
theorem kc_T_empty : Cond.code y_T_empty b_T_empty 1 none ∈ TT := tm (List.mem_append_right _ (List.mem_of_getElem? (i := 224) (by rfl))) rfl
abbrev b_T_tell : ByteArray := prog_8_method_3_code
abbrev y_T_tell : MethodName := ⟨"NextPaths$ToldPath", "tell", "(LNextPaths$Graph;J)I"⟩
def w_T_tell : List Cond := .code y_T_tell b_T_tell 5 (some .int) :: TT
set_option maxRecDepth 100000 in
theorem kc_T_tell : Cond.code y_T_tell b_T_tell 5 (some .int) ∈ TT := tm (List.mem_append_right _ (List.mem_of_getElem? (i := 320) (by rfl))) rfl
abbrev b_L_law : ByteArray := code
abbrev b_J_fill : ByteArray := prog_11_method_103_code
abbrev y_J_fill : MethodName := ⟨"java/util/Arrays", "fill", "([II)V"⟩
def w_J_fill : List Cond := .code y_J_fill b_J_fill 4 none :: TT
set_option maxRecDepth 100000 in
theorem kc_J_fill : Cond.code y_J_fill b_J_fill 4 none ∈ TT := tm (List.mem_append_right _ (List.mem_of_getElem? (i := 220) (by rfl))) rfl
theorem kn_L : Cond.initialized "NextPathsLaw" ∈ TT := tm (List.mem_append_right _ (List.mem_of_getElem? (i := 0) (by decide +kernel))) rfl
theorem kn_N : Cond.initialized "NextPaths" ∈ TT := tm (List.mem_append_right _ (List.mem_of_getElem? (i := 1) (by decide +kernel))) rfl
theorem kn_G : Cond.initialized "NextPaths$Graph" ∈ TT := tm (List.mem_append_right _ (List.mem_of_getElem? (i := 2) (by decide +kernel))) rfl
theorem kn_H : Cond.initialized "NextPaths$PathHeap" ∈ TT := tm (List.mem_append_right _ (List.mem_of_getElem? (i := 3) (by decide +kernel))) rfl
theorem kn_P : Cond.initialized "NextPaths$PathFinder" ∈ TT := tm (List.mem_append_right _ (List.mem_of_getElem? (i := 4) (by decide +kernel))) rfl
theorem kn_F : Cond.initialized "NextPaths$Flow" ∈ TT := tm (List.mem_append_right _ (List.mem_of_getElem? (i := 5) (by decide +kernel))) rfl
theorem kn_T : Cond.initialized "NextPaths$ToldPath" ∈ TT := tm (List.mem_append_right _ (List.mem_of_getElem? (i := 6) (by decide +kernel))) rfl
theorem kn_B : Cond.initialized "NextPaths$BestPairs" ∈ TT := tm (List.mem_append_right _ (List.mem_of_getElem? (i := 7) (by decide +kernel))) rfl
theorem kn_M : Cond.initialized "NextPathsModel" ∈ TT := tm (List.mem_append_right _ (List.mem_of_getElem? (i := 8) (by decide +kernel))) rfl
theorem kn_J : Cond.initialized "java/util/Arrays" ∈ TT := tm (List.mem_append_right _ (List.mem_of_getElem? (i := 9) (by decide +kernel))) rfl
theorem kn_C : Cond.initialized "NextPaths$PathCode" ∈ TT := tm (List.mem_append_right _ (List.mem_of_getElem? (i := 10) (by decide +kernel))) rfl
theorem k_L_7 : Cond.classLink "NextPathsLaw" (7 : Nat) "NextPaths" ∈ TT := tm (List.mem_append_right _ (List.mem_of_getElem? (i := 11) (by decide +kernel))) rfl
theorem kz_N : Cond.instantiable "NextPaths" (6 : Nat) ∈ TT := tm (List.mem_append_right _ (List.mem_of_getElem? (i := 12) (by decide +kernel))) rfl
theorem k_L_9 : Cond.methodLink "NextPathsLaw" (9 : Nat) ⟨"NextPaths", "<init>", "()V"⟩ ∈ TT := tm (List.mem_append_right _ (List.mem_of_getElem? (i := 13) (by decide +kernel))) rfl
theorem ki_N_init : Cond.instanceMethod ⟨"NextPaths", "<init>", "()V"⟩ ∈ TT := tm (List.mem_append_right _ (List.mem_of_getElem? (i := 14) (by decide +kernel))) rfl
theorem k_N_3 : Cond.methodLink "NextPaths" (3 : Nat) ⟨"java/lang/Object", "<init>", "()V"⟩ ∈ TT := tm (List.mem_append_right _ (List.mem_of_getElem? (i := 16) (by decide +kernel))) rfl
theorem ki_O : Cond.instanceMethod ⟨"java/lang/Object", "<init>", "()V"⟩ ∈ TT := tm (List.mem_append_right _ (List.mem_of_getElem? (i := 17) (by decide +kernel))) rfl
theorem kc_O : Cond.code ⟨"java/lang/Object", "<init>", "()V"⟩ object_method_1_code 1 none ∈ TT := tm (List.mem_append_right _ (List.mem_of_getElem? (i := 18) (by rfl))) rfl
theorem k_N_9 : Cond.classLink "NextPaths" (9 : Nat) "NextPaths$Graph" ∈ TT := tm (List.mem_append_right _ (List.mem_of_getElem? (i := 19) (by decide +kernel))) rfl
theorem kz_G : Cond.instantiable "NextPaths$Graph" (9 : Nat) ∈ TT := tm (List.mem_append_right _ (List.mem_of_getElem? (i := 20) (by decide +kernel))) rfl
theorem k_N_11 : Cond.methodLinkNest "NextPaths" (11 : Nat) ⟨"NextPaths$Graph", "<init>", "()V"⟩ "NextPaths" ∈ NN := nn_mem (List.mem_append_right _ (List.mem_of_getElem? (i := 21) (by decide +kernel))) rfl
theorem ki_G_init : Cond.instanceMethod ⟨"NextPaths$Graph", "<init>", "()V"⟩ ∈ TT := tm (List.mem_append_right _ (List.mem_of_getElem? (i := 22) (by decide +kernel))) rfl
theorem k_G_3 : Cond.methodLink "NextPaths$Graph" (3 : Nat) ⟨"java/lang/Object", "<init>", "()V"⟩ ∈ TT := tm (List.mem_append_right _ (List.mem_of_getElem? (i := 24) (by decide +kernel))) rfl
theorem k_G_28 : Cond.classLink "NextPaths$Graph" (28 : Nat) "[[I" ∈ TT := tm (List.mem_append_right _ (List.mem_of_getElem? (i := 25) (by decide +kernel))) rfl
theorem ka_grid : Cond.arrayOver (.array .int) ∈ lw_tbl := List.mem_append_right _ (List.mem_of_getElem? (i := 26) (by decide +kernel))
theorem k_G_36 : Cond.fieldLink "NextPaths$Graph" (36 : Nat) "NextPaths$Graph" "nodes" "I" ∈ TT := tm (List.mem_append_right _ (List.mem_of_getElem? (i := 27) (by decide +kernel))) rfl
theorem k_F_73 : Cond.fieldLinkNest "NextPaths$Flow" (73 : Nat) "NextPaths$Graph" "nodes" "I" "NextPaths" ∈ NN := nn_mem (List.mem_append_right _ (List.mem_of_getElem? (i := 28) (by decide +kernel))) rfl
theorem k_N_155 : Cond.fieldLinkNest "NextPaths" (155 : Nat) "NextPaths$Graph" "nodes" "I" "NextPaths" ∈ NN := nn_mem (List.mem_append_right _ (List.mem_of_getElem? (i := 29) (by decide +kernel))) rfl
theorem k_N_55 : Cond.fieldLinkNest "NextPaths" (55 : Nat) "NextPaths$Graph" "arcs" "I" "NextPaths" ∈ NN := nn_mem (List.mem_append_right _ (List.mem_of_getElem? (i := 30) (by decide +kernel))) rfl
theorem k_G_40 : Cond.fieldLink "NextPaths$Graph" (40 : Nat) "NextPaths$Graph" "arcs" "I" ∈ TT := tm (List.mem_append_right _ (List.mem_of_getElem? (i := 31) (by decide +kernel))) rfl
theorem k_F_51 : Cond.fieldLinkNest "NextPaths$Flow" (51 : Nat) "NextPaths$Graph" "arcs" "I" "NextPaths" ∈ NN := nn_mem (List.mem_append_right _ (List.mem_of_getElem? (i := 32) (by decide +kernel))) rfl
theorem k_G_9 : Cond.fieldLink "NextPaths$Graph" (9 : Nat) "NextPaths$Graph" "from" "[I" ∈ TT := tm (List.mem_append_right _ (List.mem_of_getElem? (i := 33) (by decide +kernel))) rfl
theorem k_F_60 : Cond.fieldLinkNest "NextPaths$Flow" (60 : Nat) "NextPaths$Graph" "from" "[I" "NextPaths" ∈ NN := nn_mem (List.mem_append_right _ (List.mem_of_getElem? (i := 34) (by decide +kernel))) rfl
theorem k_N_149 : Cond.fieldLinkNest "NextPaths" (149 : Nat) "NextPaths$Graph" "from" "[I" "NextPaths" ∈ NN := nn_mem (List.mem_append_right _ (List.mem_of_getElem? (i := 35) (by decide +kernel))) rfl
theorem k_G_15 : Cond.fieldLink "NextPaths$Graph" (15 : Nat) "NextPaths$Graph" "to" "[I" ∈ TT := tm (List.mem_append_right _ (List.mem_of_getElem? (i := 36) (by decide +kernel))) rfl
theorem k_P_57 : Cond.fieldLinkNest "NextPaths$PathFinder" (57 : Nat) "NextPaths$Graph" "to" "[I" "NextPaths" ∈ NN := nn_mem (List.mem_append_right _ (List.mem_of_getElem? (i := 37) (by decide +kernel))) rfl
theorem k_F_63 : Cond.fieldLinkNest "NextPaths$Flow" (63 : Nat) "NextPaths$Graph" "to" "[I" "NextPaths" ∈ NN := nn_mem (List.mem_append_right _ (List.mem_of_getElem? (i := 38) (by decide +kernel))) rfl
theorem k_N_152 : Cond.fieldLinkNest "NextPaths" (152 : Nat) "NextPaths$Graph" "to" "[I" "NextPaths" ∈ NN := nn_mem (List.mem_append_right _ (List.mem_of_getElem? (i := 39) (by decide +kernel))) rfl
theorem k_G_18 : Cond.fieldLink "NextPaths$Graph" (18 : Nat) "NextPaths$Graph" "weight" "[I" ∈ TT := tm (List.mem_append_right _ (List.mem_of_getElem? (i := 40) (by decide +kernel))) rfl
theorem k_P_63 : Cond.fieldLinkNest "NextPaths$PathFinder" (63 : Nat) "NextPaths$Graph" "weight" "[I" "NextPaths" ∈ NN := nn_mem (List.mem_append_right _ (List.mem_of_getElem? (i := 41) (by decide +kernel))) rfl
theorem k_F_66 : Cond.fieldLinkNest "NextPaths$Flow" (66 : Nat) "NextPaths$Graph" "weight" "[I" "NextPaths" ∈ NN := nn_mem (List.mem_append_right _ (List.mem_of_getElem? (i := 42) (by decide +kernel))) rfl
theorem k_N_83 : Cond.fieldLinkNest "NextPaths" (83 : Nat) "NextPaths$Graph" "weight" "[I" "NextPaths" ∈ NN := nn_mem (List.mem_append_right _ (List.mem_of_getElem? (i := 43) (by decide +kernel))) rfl
theorem k_G_21 : Cond.fieldLink "NextPaths$Graph" (21 : Nat) "NextPaths$Graph" "second" "[I" ∈ TT := tm (List.mem_append_right _ (List.mem_of_getElem? (i := 44) (by decide +kernel))) rfl
theorem k_N_87 : Cond.fieldLinkNest "NextPaths" (87 : Nat) "NextPaths$Graph" "second" "[I" "NextPaths" ∈ NN := nn_mem (List.mem_append_right _ (List.mem_of_getElem? (i := 45) (by decide +kernel))) rfl
theorem k_G_24 : Cond.fieldLink "NextPaths$Graph" (24 : Nat) "NextPaths$Graph" "isShut" "[Z" ∈ TT := tm (List.mem_append_right _ (List.mem_of_getElem? (i := 46) (by decide +kernel))) rfl
theorem k_P_60 : Cond.fieldLinkNest "NextPaths$PathFinder" (60 : Nat) "NextPaths$Graph" "isShut" "[Z" "NextPaths" ∈ NN := nn_mem (List.mem_append_right _ (List.mem_of_getElem? (i := 47) (by decide +kernel))) rfl
theorem k_F_56 : Cond.fieldLinkNest "NextPaths$Flow" (56 : Nat) "NextPaths$Graph" "isShut" "[Z" "NextPaths" ∈ NN := nn_mem (List.mem_append_right _ (List.mem_of_getElem? (i := 48) (by decide +kernel))) rfl
theorem k_N_90 : Cond.fieldLinkNest "NextPaths" (90 : Nat) "NextPaths$Graph" "isShut" "[Z" "NextPaths" ∈ NN := nn_mem (List.mem_append_right _ (List.mem_of_getElem? (i := 49) (by decide +kernel))) rfl
theorem k_G_30 : Cond.fieldLink "NextPaths$Graph" (30 : Nat) "NextPaths$Graph" "leaving" "[[I" ∈ TT := tm (List.mem_append_right _ (List.mem_of_getElem? (i := 50) (by decide +kernel))) rfl
theorem k_P_53 : Cond.fieldLinkNest "NextPaths$PathFinder" (53 : Nat) "NextPaths$Graph" "leaving" "[[I" "NextPaths" ∈ NN := nn_mem (List.mem_append_right _ (List.mem_of_getElem? (i := 51) (by decide +kernel))) rfl
theorem k_G_33 : Cond.fieldLink "NextPaths$Graph" (33 : Nat) "NextPaths$Graph" "leavingSize" "[I" ∈ TT := tm (List.mem_append_right _ (List.mem_of_getElem? (i := 52) (by decide +kernel))) rfl
theorem k_P_48 : Cond.fieldLinkNest "NextPaths$PathFinder" (48 : Nat) "NextPaths$Graph" "leavingSize" "[I" "NextPaths" ∈ NN := nn_mem (List.mem_append_right _ (List.mem_of_getElem? (i := 53) (by decide +kernel))) rfl
theorem ka_int : Cond.arrayClass .int ∈ TT := tm (List.mem_append_right _ (List.mem_of_getElem? (i := 73) (by decide +kernel))) rfl
theorem ka_boolean : Cond.arrayClass .boolean ∈ TT := tm (List.mem_append_right _ (List.mem_of_getElem? (i := 74) (by decide +kernel))) rfl
theorem k_N_16 : Cond.classLink "NextPaths" (16 : Nat) "NextPaths$PathHeap" ∈ TT := tm (List.mem_append_right _ (List.mem_of_getElem? (i := 75) (by decide +kernel))) rfl
theorem kz_H : Cond.instantiable "NextPaths$PathHeap" (2 : Nat) ∈ TT := tm (List.mem_append_right _ (List.mem_of_getElem? (i := 76) (by decide +kernel))) rfl
theorem k_N_18 : Cond.methodLinkNest "NextPaths" (18 : Nat) ⟨"NextPaths$PathHeap", "<init>", "()V"⟩ "NextPaths" ∈ NN := nn_mem (List.mem_append_right _ (List.mem_of_getElem? (i := 77) (by decide +kernel))) rfl
theorem ki_H_init : Cond.instanceMethod ⟨"NextPaths$PathHeap", "<init>", "()V"⟩ ∈ TT := tm (List.mem_append_right _ (List.mem_of_getElem? (i := 78) (by decide +kernel))) rfl
theorem k_H_3 : Cond.methodLink "NextPaths$PathHeap" (3 : Nat) ⟨"java/lang/Object", "<init>", "()V"⟩ ∈ TT := tm (List.mem_append_right _ (List.mem_of_getElem? (i := 80) (by decide +kernel))) rfl
theorem k_H_9 : Cond.fieldLink "NextPaths$PathHeap" (9 : Nat) "NextPaths$PathHeap" "paths" "[J" ∈ TT := tm (List.mem_append_right _ (List.mem_of_getElem? (i := 81) (by decide +kernel))) rfl
theorem k_H_15 : Cond.fieldLink "NextPaths$PathHeap" (15 : Nat) "NextPaths$PathHeap" "size" "I" ∈ TT := tm (List.mem_append_right _ (List.mem_of_getElem? (i := 82) (by decide +kernel))) rfl
theorem k_N_102 : Cond.fieldLinkNest "NextPaths" (102 : Nat) "NextPaths$PathHeap" "size" "I" "NextPaths" ∈ NN := nn_mem (List.mem_append_right _ (List.mem_of_getElem? (i := 83) (by decide +kernel))) rfl
theorem ka_long : Cond.arrayClass .long ∈ TT := tm (List.mem_append_right _ (List.mem_of_getElem? (i := 89) (by decide +kernel))) rfl
theorem k_N_23 : Cond.classLink "NextPaths" (23 : Nat) "NextPaths$PathFinder" ∈ TT := tm (List.mem_append_right _ (List.mem_of_getElem? (i := 90) (by decide +kernel))) rfl
theorem kz_P : Cond.instantiable "NextPaths$PathFinder" (5 : Nat) ∈ TT := tm (List.mem_append_right _ (List.mem_of_getElem? (i := 91) (by decide +kernel))) rfl
theorem k_N_25 : Cond.methodLinkNest "NextPaths" (25 : Nat) ⟨"NextPaths$PathFinder", "<init>", "(LNextPaths$Graph;LNextPaths$PathHeap;)V"⟩ "NextPaths" ∈ NN := nn_mem (List.mem_append_right _ (List.mem_of_getElem? (i := 92) (by decide +kernel))) rfl
theorem ki_P_init : Cond.instanceMethod ⟨"NextPaths$PathFinder", "<init>", "(LNextPaths$Graph;LNextPaths$PathHeap;)V"⟩ ∈ TT := tm (List.mem_append_right _ (List.mem_of_getElem? (i := 93) (by decide +kernel))) rfl
theorem k_P_3 : Cond.methodLink "NextPaths$PathFinder" (3 : Nat) ⟨"java/lang/Object", "<init>", "()V"⟩ ∈ TT := tm (List.mem_append_right _ (List.mem_of_getElem? (i := 95) (by decide +kernel))) rfl
theorem k_P_19 : Cond.fieldLink "NextPaths$PathFinder" (19 : Nat) "NextPaths$PathFinder" "graph" "LNextPaths$Graph;" ∈ TT := tm (List.mem_append_right _ (List.mem_of_getElem? (i := 96) (by decide +kernel))) rfl
theorem k_P_23 : Cond.fieldLink "NextPaths$PathFinder" (23 : Nat) "NextPaths$PathFinder" "heap" "LNextPaths$PathHeap;" ∈ TT := tm (List.mem_append_right _ (List.mem_of_getElem? (i := 97) (by decide +kernel))) rfl
theorem k_P_9 : Cond.fieldLink "NextPaths$PathFinder" (9 : Nat) "NextPaths$PathFinder" "been" "[Z" ∈ TT := tm (List.mem_append_right _ (List.mem_of_getElem? (i := 98) (by decide +kernel))) rfl
theorem k_P_15 : Cond.fieldLink "NextPaths$PathFinder" (15 : Nat) "NextPaths$PathFinder" "chosen" "[I" ∈ TT := tm (List.mem_append_right _ (List.mem_of_getElem? (i := 99) (by decide +kernel))) rfl
theorem k_P_32 : Cond.fieldLink "NextPaths$PathFinder" (32 : Nat) "NextPaths$PathFinder" "goal" "I" ∈ TT := tm (List.mem_append_right _ (List.mem_of_getElem? (i := 100) (by decide +kernel))) rfl
theorem k_N_32 : Cond.classLink "NextPaths" (32 : Nat) "NextPaths$Flow" ∈ TT := tm (List.mem_append_right _ (List.mem_of_getElem? (i := 112) (by decide +kernel))) rfl
theorem kz_F : Cond.instantiable "NextPaths$Flow" (10 : Nat) ∈ TT := tm (List.mem_append_right _ (List.mem_of_getElem? (i := 113) (by decide +kernel))) rfl
theorem k_N_34 : Cond.methodLinkNest "NextPaths" (34 : Nat) ⟨"NextPaths$Flow", "<init>", "(LNextPaths$Graph;)V"⟩ "NextPaths" ∈ NN := nn_mem (List.mem_append_right _ (List.mem_of_getElem? (i := 114) (by decide +kernel))) rfl
theorem ki_F_init : Cond.instanceMethod ⟨"NextPaths$Flow", "<init>", "(LNextPaths$Graph;)V"⟩ ∈ TT := tm (List.mem_append_right _ (List.mem_of_getElem? (i := 115) (by decide +kernel))) rfl
theorem k_F_3 : Cond.methodLink "NextPaths$Flow" (3 : Nat) ⟨"java/lang/Object", "<init>", "()V"⟩ ∈ TT := tm (List.mem_append_right _ (List.mem_of_getElem? (i := 117) (by decide +kernel))) rfl
theorem k_F_30 : Cond.fieldLink "NextPaths$Flow" (30 : Nat) "NextPaths$Flow" "graph" "LNextPaths$Graph;" ∈ TT := tm (List.mem_append_right _ (List.mem_of_getElem? (i := 118) (by decide +kernel))) rfl
theorem k_F_11 : Cond.fieldLink "NextPaths$Flow" (11 : Nat) "NextPaths$Flow" "tail" "[I" ∈ TT := tm (List.mem_append_right _ (List.mem_of_getElem? (i := 119) (by decide +kernel))) rfl
theorem k_F_15 : Cond.fieldLink "NextPaths$Flow" (15 : Nat) "NextPaths$Flow" "head" "[I" ∈ TT := tm (List.mem_append_right _ (List.mem_of_getElem? (i := 120) (by decide +kernel))) rfl
theorem k_F_18 : Cond.fieldLink "NextPaths$Flow" (18 : Nat) "NextPaths$Flow" "cost" "[I" ∈ TT := tm (List.mem_append_right _ (List.mem_of_getElem? (i := 121) (by decide +kernel))) rfl
theorem k_F_21 : Cond.fieldLink "NextPaths$Flow" (21 : Nat) "NextPaths$Flow" "room" "[I" ∈ TT := tm (List.mem_append_right _ (List.mem_of_getElem? (i := 122) (by decide +kernel))) rfl
theorem k_F_24 : Cond.fieldLink "NextPaths$Flow" (24 : Nat) "NextPaths$Flow" "distance" "[I" ∈ TT := tm (List.mem_append_right _ (List.mem_of_getElem? (i := 123) (by decide +kernel))) rfl
theorem k_F_27 : Cond.fieldLink "NextPaths$Flow" (27 : Nat) "NextPaths$Flow" "lastEdge" "[I" ∈ TT := tm (List.mem_append_right _ (List.mem_of_getElem? (i := 124) (by decide +kernel))) rfl
theorem k_F_34 : Cond.fieldLink "NextPaths$Flow" (34 : Nat) "NextPaths$Flow" "edges" "I" ∈ TT := tm (List.mem_append_right _ (List.mem_of_getElem? (i := 125) (by decide +kernel))) rfl
theorem k_F_42 : Cond.fieldLink "NextPaths$Flow" (42 : Nat) "NextPaths$Flow" "source" "I" ∈ TT := tm (List.mem_append_right _ (List.mem_of_getElem? (i := 126) (by decide +kernel))) rfl
theorem k_F_48 : Cond.fieldLink "NextPaths$Flow" (48 : Nat) "NextPaths$Flow" "goal" "I" ∈ TT := tm (List.mem_append_right _ (List.mem_of_getElem? (i := 127) (by decide +kernel))) rfl
theorem k_N_41 : Cond.classLink "NextPaths" (41 : Nat) "NextPaths$ToldPath" ∈ TT := tm (List.mem_append_right _ (List.mem_of_getElem? (i := 149) (by decide +kernel))) rfl
theorem kz_T : Cond.instantiable "NextPaths$ToldPath" (4 : Nat) ∈ TT := tm (List.mem_append_right _ (List.mem_of_getElem? (i := 150) (by decide +kernel))) rfl
theorem k_N_43 : Cond.methodLinkNest "NextPaths" (43 : Nat) ⟨"NextPaths$ToldPath", "<init>", "()V"⟩ "NextPaths" ∈ NN := nn_mem (List.mem_append_right _ (List.mem_of_getElem? (i := 151) (by decide +kernel))) rfl
theorem ki_T_init : Cond.instanceMethod ⟨"NextPaths$ToldPath", "<init>", "()V"⟩ ∈ TT := tm (List.mem_append_right _ (List.mem_of_getElem? (i := 152) (by decide +kernel))) rfl
theorem k_T_3 : Cond.methodLink "NextPaths$ToldPath" (3 : Nat) ⟨"java/lang/Object", "<init>", "()V"⟩ ∈ TT := tm (List.mem_append_right _ (List.mem_of_getElem? (i := 154) (by decide +kernel))) rfl
theorem k_T_9 : Cond.fieldLink "NextPaths$ToldPath" (9 : Nat) "NextPaths$ToldPath" "steps" "[I" ∈ TT := tm (List.mem_append_right _ (List.mem_of_getElem? (i := 155) (by decide +kernel))) rfl
theorem k_N_142 : Cond.fieldLinkNest "NextPaths" (142 : Nat) "NextPaths$ToldPath" "steps" "[I" "NextPaths" ∈ NN := nn_mem (List.mem_append_right _ (List.mem_of_getElem? (i := 156) (by decide +kernel))) rfl
theorem k_T_15 : Cond.fieldLink "NextPaths$ToldPath" (15 : Nat) "NextPaths$ToldPath" "length" "I" ∈ TT := tm (List.mem_append_right _ (List.mem_of_getElem? (i := 157) (by decide +kernel))) rfl
theorem k_N_139 : Cond.fieldLinkNest "NextPaths" (139 : Nat) "NextPaths$ToldPath" "length" "I" "NextPaths" ∈ NN := nn_mem (List.mem_append_right _ (List.mem_of_getElem? (i := 158) (by decide +kernel))) rfl
theorem k_T_28 : Cond.fieldLink "NextPaths$ToldPath" (28 : Nat) "NextPaths$ToldPath" "weight" "I" ∈ TT := tm (List.mem_append_right _ (List.mem_of_getElem? (i := 159) (by decide +kernel))) rfl
theorem k_N_145 : Cond.fieldLinkNest "NextPaths" (145 : Nat) "NextPaths$ToldPath" "weight" "I" "NextPaths" ∈ NN := nn_mem (List.mem_append_right _ (List.mem_of_getElem? (i := 160) (by decide +kernel))) rfl
theorem k_T_36 : Cond.fieldLink "NextPaths$ToldPath" (36 : Nat) "NextPaths$ToldPath" "second" "I" ∈ TT := tm (List.mem_append_right _ (List.mem_of_getElem? (i := 161) (by decide +kernel))) rfl
theorem k_N_147 : Cond.fieldLinkNest "NextPaths" (147 : Nat) "NextPaths$ToldPath" "second" "I" "NextPaths" ∈ NN := nn_mem (List.mem_append_right _ (List.mem_of_getElem? (i := 162) (by decide +kernel))) rfl
theorem k_N_48 : Cond.classLink "NextPaths" (48 : Nat) "NextPaths$BestPairs" ∈ TT := tm (List.mem_append_right _ (List.mem_of_getElem? (i := 172) (by decide +kernel))) rfl
theorem kz_B : Cond.instantiable "NextPaths$BestPairs" (3 : Nat) ∈ TT := tm (List.mem_append_right _ (List.mem_of_getElem? (i := 173) (by decide +kernel))) rfl
theorem k_N_50 : Cond.methodLinkNest "NextPaths" (50 : Nat) ⟨"NextPaths$BestPairs", "<init>", "()V"⟩ "NextPaths" ∈ NN := nn_mem (List.mem_append_right _ (List.mem_of_getElem? (i := 174) (by decide +kernel))) rfl
theorem ki_B_init : Cond.instanceMethod ⟨"NextPaths$BestPairs", "<init>", "()V"⟩ ∈ TT := tm (List.mem_append_right _ (List.mem_of_getElem? (i := 175) (by decide +kernel))) rfl
theorem k_B_3 : Cond.methodLink "NextPaths$BestPairs" (3 : Nat) ⟨"java/lang/Object", "<init>", "()V"⟩ ∈ TT := tm (List.mem_append_right _ (List.mem_of_getElem? (i := 177) (by decide +kernel))) rfl
theorem k_B_9 : Cond.fieldLink "NextPaths$BestPairs" (9 : Nat) "NextPaths$BestPairs" "weights" "[I" ∈ TT := tm (List.mem_append_right _ (List.mem_of_getElem? (i := 178) (by decide +kernel))) rfl
theorem k_N_133 : Cond.fieldLinkNest "NextPaths" (133 : Nat) "NextPaths$BestPairs" "weights" "[I" "NextPaths" ∈ NN := nn_mem (List.mem_append_right _ (List.mem_of_getElem? (i := 179) (by decide +kernel))) rfl
theorem k_B_15 : Cond.fieldLink "NextPaths$BestPairs" (15 : Nat) "NextPaths$BestPairs" "seconds" "[I" ∈ TT := tm (List.mem_append_right _ (List.mem_of_getElem? (i := 180) (by decide +kernel))) rfl
theorem k_N_136 : Cond.fieldLinkNest "NextPaths" (136 : Nat) "NextPaths$BestPairs" "seconds" "[I" "NextPaths" ∈ NN := nn_mem (List.mem_append_right _ (List.mem_of_getElem? (i := 181) (by decide +kernel))) rfl
theorem k_B_18 : Cond.fieldLink "NextPaths$BestPairs" (18 : Nat) "NextPaths$BestPairs" "size" "I" ∈ TT := tm (List.mem_append_right _ (List.mem_of_getElem? (i := 182) (by decide +kernel))) rfl
theorem k_N_132 : Cond.fieldLinkNest "NextPaths" (132 : Nat) "NextPaths$BestPairs" "size" "I" "NextPaths" ∈ NN := nn_mem (List.mem_append_right _ (List.mem_of_getElem? (i := 183) (by decide +kernel))) rfl
theorem k_N_12 : Cond.fieldLink "NextPaths" (12 : Nat) "NextPaths" "graph" "LNextPaths$Graph;" ∈ TT := tm (List.mem_append_right _ (List.mem_of_getElem? (i := 191) (by decide +kernel))) rfl
theorem k_N_19 : Cond.fieldLink "NextPaths" (19 : Nat) "NextPaths" "heap" "LNextPaths$PathHeap;" ∈ TT := tm (List.mem_append_right _ (List.mem_of_getElem? (i := 192) (by decide +kernel))) rfl
theorem k_N_28 : Cond.fieldLink "NextPaths" (28 : Nat) "NextPaths" "finder" "LNextPaths$PathFinder;" ∈ TT := tm (List.mem_append_right _ (List.mem_of_getElem? (i := 193) (by decide +kernel))) rfl
theorem k_N_37 : Cond.fieldLink "NextPaths" (37 : Nat) "NextPaths" "flow" "LNextPaths$Flow;" ∈ TT := tm (List.mem_append_right _ (List.mem_of_getElem? (i := 194) (by decide +kernel))) rfl
theorem k_N_44 : Cond.fieldLink "NextPaths" (44 : Nat) "NextPaths" "lastTold" "LNextPaths$ToldPath;" ∈ TT := tm (List.mem_append_right _ (List.mem_of_getElem? (i := 195) (by decide +kernel))) rfl
theorem k_N_51 : Cond.fieldLink "NextPaths" (51 : Nat) "NextPaths" "lastPairs" "LNextPaths$BestPairs;" ∈ TT := tm (List.mem_append_right _ (List.mem_of_getElem? (i := 196) (by decide +kernel))) rfl
theorem k_L_13 : Cond.methodLink "NextPathsLaw" (13 : Nat) ⟨"NextPaths", "clear", "()I"⟩ ∈ TT := tm (List.mem_append_right _ (List.mem_of_getElem? (i := 210) (by decide +kernel))) rfl
theorem ki_N_clear : Cond.instanceMethod ⟨"NextPaths", "clear", "()I"⟩ ∈ TT := tm (List.mem_append_right _ (List.mem_of_getElem? (i := 211) (by decide +kernel))) rfl
theorem kx_N_clear : Cond.selects "NextPaths" ⟨"NextPaths", "clear", "()I"⟩ ⟨"NextPaths", "clear", "()I"⟩ ∈ TT := tm (List.mem_append_right _ (List.mem_of_getElem? (i := 212) (by decide +kernel))) rfl
theorem k_N_59 : Cond.methodLinkNest "NextPaths" (59 : Nat) ⟨"NextPaths$Graph", "empty", "()V"⟩ "NextPaths" ∈ NN := nn_mem (List.mem_append_right _ (List.mem_of_getElem? (i := 214) (by decide +kernel))) rfl
theorem ki_G_empty : Cond.instanceMethod ⟨"NextPaths$Graph", "empty", "()V"⟩ ∈ TT := tm (List.mem_append_right _ (List.mem_of_getElem? (i := 216) (by decide +kernel))) rfl
theorem k_G_43 : Cond.methodLink "NextPaths$Graph" (43 : Nat) ⟨"java/util/Arrays", "fill", "([II)V"⟩ ∈ TT := tm (List.mem_append_right _ (List.mem_of_getElem? (i := 218) (by decide +kernel))) rfl
theorem ks_J_fill : Cond.static ⟨"java/util/Arrays", "fill", "([II)V"⟩ ∈ TT := tm (List.mem_append_right _ (List.mem_of_getElem? (i := 219) (by decide +kernel))) rfl
theorem k_N_62 : Cond.methodLinkNest "NextPaths" (62 : Nat) ⟨"NextPaths$ToldPath", "empty", "()V"⟩ "NextPaths" ∈ NN := nn_mem (List.mem_append_right _ (List.mem_of_getElem? (i := 221) (by decide +kernel))) rfl
theorem ki_T_empty : Cond.instanceMethod ⟨"NextPaths$ToldPath", "empty", "()V"⟩ ∈ TT := tm (List.mem_append_right _ (List.mem_of_getElem? (i := 223) (by decide +kernel))) rfl
theorem k_N_63 : Cond.methodLinkNest "NextPaths" (63 : Nat) ⟨"NextPaths$BestPairs", "empty", "()V"⟩ "NextPaths" ∈ NN := nn_mem (List.mem_append_right _ (List.mem_of_getElem? (i := 225) (by decide +kernel))) rfl
theorem ki_B_empty : Cond.instanceMethod ⟨"NextPaths$BestPairs", "empty", "()V"⟩ ∈ TT := tm (List.mem_append_right _ (List.mem_of_getElem? (i := 227) (by decide +kernel))) rfl
theorem k_L_18 : Cond.methodLink "NextPathsLaw" (18 : Nat) ⟨"NextPaths", "node", "()I"⟩ ∈ TT := tm (List.mem_append_right _ (List.mem_of_getElem? (i := 229) (by decide +kernel))) rfl
theorem ki_N_node : Cond.instanceMethod ⟨"NextPaths", "node", "()I"⟩ ∈ TT := tm (List.mem_append_right _ (List.mem_of_getElem? (i := 230) (by decide +kernel))) rfl
theorem kx_N_node : Cond.selects "NextPaths" ⟨"NextPaths", "node", "()I"⟩ ⟨"NextPaths", "node", "()I"⟩ ∈ TT := tm (List.mem_append_right _ (List.mem_of_getElem? (i := 231) (by decide +kernel))) rfl
theorem k_N_64 : Cond.methodLinkNest "NextPaths" (64 : Nat) ⟨"NextPaths$Graph", "addNode", "()I"⟩ "NextPaths" ∈ NN := nn_mem (List.mem_append_right _ (List.mem_of_getElem? (i := 233) (by decide +kernel))) rfl
theorem ki_G_addNode : Cond.instanceMethod ⟨"NextPaths$Graph", "addNode", "()I"⟩ ∈ TT := tm (List.mem_append_right _ (List.mem_of_getElem? (i := 235) (by decide +kernel))) rfl
theorem k_L_22 : Cond.methodLink "NextPathsLaw" (22 : Nat) ⟨"NextPaths", "arc", "(IIII)I"⟩ ∈ TT := tm (List.mem_append_right _ (List.mem_of_getElem? (i := 237) (by decide +kernel))) rfl
theorem ki_N_arc : Cond.instanceMethod ⟨"NextPaths", "arc", "(IIII)I"⟩ ∈ TT := tm (List.mem_append_right _ (List.mem_of_getElem? (i := 238) (by decide +kernel))) rfl
theorem kx_N_arc : Cond.selects "NextPaths" ⟨"NextPaths", "arc", "(IIII)I"⟩ ⟨"NextPaths", "arc", "(IIII)I"⟩ ∈ TT := tm (List.mem_append_right _ (List.mem_of_getElem? (i := 239) (by decide +kernel))) rfl
theorem k_N_68 : Cond.methodLinkNest "NextPaths" (68 : Nat) ⟨"NextPaths$Graph", "areTwoNodes", "(II)Z"⟩ "NextPaths" ∈ NN := nn_mem (List.mem_append_right _ (List.mem_of_getElem? (i := 241) (by decide +kernel))) rfl
theorem ki_G_areTwoNodes : Cond.instanceMethod ⟨"NextPaths$Graph", "areTwoNodes", "(II)Z"⟩ ∈ TT := tm (List.mem_append_right _ (List.mem_of_getElem? (i := 243) (by decide +kernel))) rfl
theorem k_G_53 : Cond.methodLink "NextPaths$Graph" (53 : Nat) ⟨"NextPaths$Graph", "isNode", "(I)Z"⟩ ∈ TT := tm (List.mem_append_right _ (List.mem_of_getElem? (i := 245) (by decide +kernel))) rfl
theorem ki_G_isNode : Cond.instanceMethod ⟨"NextPaths$Graph", "isNode", "(I)Z"⟩ ∈ TT := tm (List.mem_append_right _ (List.mem_of_getElem? (i := 247) (by decide +kernel))) rfl
theorem k_G_49 : Cond.methodLinkNest "NextPaths$Graph" (49 : Nat) ⟨"NextPaths", "liesIn", "(III)Z"⟩ "NextPaths" ∈ NN := nn_mem (List.mem_append_right _ (List.mem_of_getElem? (i := 249) (by decide +kernel))) rfl
theorem ks_N_liesIn : Cond.static ⟨"NextPaths", "liesIn", "(III)Z"⟩ ∈ TT := tm (List.mem_append_right _ (List.mem_of_getElem? (i := 250) (by decide +kernel))) rfl
theorem k_N_72 : Cond.methodLink "NextPaths" (72 : Nat) ⟨"NextPaths", "isWeight", "(I)Z"⟩ ∈ TT := tm (List.mem_append_right _ (List.mem_of_getElem? (i := 252) (by decide +kernel))) rfl
theorem ks_N_isWeight : Cond.static ⟨"NextPaths", "isWeight", "(I)Z"⟩ ∈ TT := tm (List.mem_append_right _ (List.mem_of_getElem? (i := 253) (by decide +kernel))) rfl
theorem k_N_94 : Cond.methodLink "NextPaths" (94 : Nat) ⟨"NextPaths", "liesIn", "(III)Z"⟩ ∈ TT := tm (List.mem_append_right _ (List.mem_of_getElem? (i := 255) (by decide +kernel))) rfl
theorem k_N_76 : Cond.methodLinkNest "NextPaths" (76 : Nat) ⟨"NextPaths$Graph", "addArc", "(IIII)I"⟩ "NextPaths" ∈ NN := nn_mem (List.mem_append_right _ (List.mem_of_getElem? (i := 256) (by decide +kernel))) rfl
theorem ki_G_addArc : Cond.instanceMethod ⟨"NextPaths$Graph", "addArc", "(IIII)I"⟩ ∈ TT := tm (List.mem_append_right _ (List.mem_of_getElem? (i := 258) (by decide +kernel))) rfl
theorem k_L_27 : Cond.methodLink "NextPathsLaw" (27 : Nat) ⟨"NextPaths", "change", "(III)I"⟩ ∈ TT := tm (List.mem_append_right _ (List.mem_of_getElem? (i := 260) (by decide +kernel))) rfl
theorem ki_N_change : Cond.instanceMethod ⟨"NextPaths", "change", "(III)I"⟩ ∈ TT := tm (List.mem_append_right _ (List.mem_of_getElem? (i := 261) (by decide +kernel))) rfl
theorem kx_N_change : Cond.selects "NextPaths" ⟨"NextPaths", "change", "(III)I"⟩ ⟨"NextPaths", "change", "(III)I"⟩ ∈ TT := tm (List.mem_append_right _ (List.mem_of_getElem? (i := 262) (by decide +kernel))) rfl
theorem k_N_80 : Cond.methodLinkNest "NextPaths" (80 : Nat) ⟨"NextPaths$Graph", "isArc", "(I)Z"⟩ "NextPaths" ∈ NN := nn_mem (List.mem_append_right _ (List.mem_of_getElem? (i := 264) (by decide +kernel))) rfl
theorem ki_G_isArc : Cond.instanceMethod ⟨"NextPaths$Graph", "isArc", "(I)Z"⟩ ∈ TT := tm (List.mem_append_right _ (List.mem_of_getElem? (i := 266) (by decide +kernel))) rfl
theorem k_L_32 : Cond.methodLink "NextPathsLaw" (32 : Nat) ⟨"NextPaths", "shut", "(IZ)I"⟩ ∈ TT := tm (List.mem_append_right _ (List.mem_of_getElem? (i := 268) (by decide +kernel))) rfl
theorem ki_N_shut : Cond.instanceMethod ⟨"NextPaths", "shut", "(IZ)I"⟩ ∈ TT := tm (List.mem_append_right _ (List.mem_of_getElem? (i := 269) (by decide +kernel))) rfl
theorem kx_N_shut : Cond.selects "NextPaths" ⟨"NextPaths", "shut", "(IZ)I"⟩ ⟨"NextPaths", "shut", "(IZ)I"⟩ ∈ TT := tm (List.mem_append_right _ (List.mem_of_getElem? (i := 270) (by decide +kernel))) rfl
theorem k_L_37 : Cond.methodLink "NextPathsLaw" (37 : Nat) ⟨"NextPaths", "next", "(III)I"⟩ ∈ TT := tm (List.mem_append_right _ (List.mem_of_getElem? (i := 272) (by decide +kernel))) rfl
theorem ki_N_next : Cond.instanceMethod ⟨"NextPaths", "next", "(III)I"⟩ ∈ TT := tm (List.mem_append_right _ (List.mem_of_getElem? (i := 273) (by decide +kernel))) rfl
theorem kx_N_next : Cond.selects "NextPaths" ⟨"NextPaths", "next", "(III)I"⟩ ⟨"NextPaths", "next", "(III)I"⟩ ∈ TT := tm (List.mem_append_right _ (List.mem_of_getElem? (i := 274) (by decide +kernel))) rfl
theorem k_N_98 : Cond.methodLinkNest "NextPaths" (98 : Nat) ⟨"NextPaths$PathFinder", "findAll", "(II)V"⟩ "NextPaths" ∈ NN := nn_mem (List.mem_append_right _ (List.mem_of_getElem? (i := 276) (by decide +kernel))) rfl
theorem ki_P_findAll : Cond.instanceMethod ⟨"NextPaths$PathFinder", "findAll", "(II)V"⟩ ∈ TT := tm (List.mem_append_right _ (List.mem_of_getElem? (i := 278) (by decide +kernel))) rfl
theorem k_P_27 : Cond.methodLinkNest "NextPaths$PathFinder" (27 : Nat) ⟨"NextPaths$PathHeap", "empty", "()V"⟩ "NextPaths" ∈ NN := nn_mem (List.mem_append_right _ (List.mem_of_getElem? (i := 280) (by decide +kernel))) rfl
theorem ki_H_empty : Cond.instanceMethod ⟨"NextPaths$PathHeap", "empty", "()V"⟩ ∈ TT := tm (List.mem_append_right _ (List.mem_of_getElem? (i := 282) (by decide +kernel))) rfl
theorem k_P_36 : Cond.methodLink "NextPaths$PathFinder" (36 : Nat) ⟨"NextPaths$PathFinder", "walkOn", "(LNextPaths$PathFinder;II)V"⟩ ∈ TT := tm (List.mem_append_right _ (List.mem_of_getElem? (i := 284) (by decide +kernel))) rfl
theorem ks_P_walkOn : Cond.static ⟨"NextPaths$PathFinder", "walkOn", "(LNextPaths$PathFinder;II)V"⟩ ∈ TT := tm (List.mem_append_right _ (List.mem_of_getElem? (i := 285) (by decide +kernel))) rfl
theorem k_P_40 : Cond.methodLink "NextPaths$PathFinder" (40 : Nat) ⟨"NextPaths$PathFinder", "code", "(I)J"⟩ ∈ TT := tm (List.mem_append_right _ (List.mem_of_getElem? (i := 287) (by decide +kernel))) rfl
theorem ki_P_code : Cond.instanceMethod ⟨"NextPaths$PathFinder", "code", "(I)J"⟩ ∈ TT := tm (List.mem_append_right _ (List.mem_of_getElem? (i := 289) (by decide +kernel))) rfl
theorem k_P_66 : Cond.methodLinkNest "NextPaths$PathFinder" (66 : Nat) ⟨"NextPaths$PathCode", "arcAt", "(II)J"⟩ "NextPaths" ∈ NN := nn_mem (List.mem_append_right _ (List.mem_of_getElem? (i := 291) (by decide +kernel))) rfl
theorem ks_C_arcAt : Cond.static ⟨"NextPaths$PathCode", "arcAt", "(II)J"⟩ ∈ TT := tm (List.mem_append_right _ (List.mem_of_getElem? (i := 292) (by decide +kernel))) rfl
theorem k_C_11 : Cond.methodLink "NextPaths$PathCode" (11 : Nat) ⟨"NextPaths$PathCode", "shiftOf", "(I)I"⟩ ∈ TT := tm (List.mem_append_right _ (List.mem_of_getElem? (i := 294) (by decide +kernel))) rfl
theorem ks_C_shiftOf : Cond.static ⟨"NextPaths$PathCode", "shiftOf", "(I)I"⟩ ∈ TT := tm (List.mem_append_right _ (List.mem_of_getElem? (i := 295) (by decide +kernel))) rfl
theorem k_P_72 : Cond.methodLinkNest "NextPaths$PathFinder" (72 : Nat) ⟨"NextPaths$PathCode", "head", "(II)J"⟩ "NextPaths" ∈ NN := nn_mem (List.mem_append_right _ (List.mem_of_getElem? (i := 297) (by decide +kernel))) rfl
theorem ks_C_head : Cond.static ⟨"NextPaths$PathCode", "head", "(II)J"⟩ ∈ TT := tm (List.mem_append_right _ (List.mem_of_getElem? (i := 298) (by decide +kernel))) rfl
theorem k_P_44 : Cond.methodLinkNest "NextPaths$PathFinder" (44 : Nat) ⟨"NextPaths$PathHeap", "add", "(J)V"⟩ "NextPaths" ∈ NN := nn_mem (List.mem_append_right _ (List.mem_of_getElem? (i := 300) (by decide +kernel))) rfl
theorem ki_H_add : Cond.instanceMethod ⟨"NextPaths$PathHeap", "add", "(J)V"⟩ ∈ TT := tm (List.mem_append_right _ (List.mem_of_getElem? (i := 302) (by decide +kernel))) rfl
theorem k_N_105 : Cond.methodLinkNest "NextPaths" (105 : Nat) ⟨"NextPaths$PathHeap", "takeFirst", "()J"⟩ "NextPaths" ∈ NN := nn_mem (List.mem_append_right _ (List.mem_of_getElem? (i := 304) (by decide +kernel))) rfl
theorem ki_H_takeFirst : Cond.instanceMethod ⟨"NextPaths$PathHeap", "takeFirst", "()J"⟩ ∈ TT := tm (List.mem_append_right _ (List.mem_of_getElem? (i := 306) (by decide +kernel))) rfl
theorem k_H_19 : Cond.constantLong "NextPaths$PathHeap" (19 : Nat) (-1 : Int64) ∈ TT := tm (List.mem_append_right _ (List.mem_of_getElem? (i := 308) (by decide +kernel))) rfl
theorem k_H_21 : Cond.methodLink "NextPaths$PathHeap" (21 : Nat) ⟨"NextPaths$PathHeap", "sinkFromTop", "(J)V"⟩ ∈ TT := tm (List.mem_append_right _ (List.mem_of_getElem? (i := 309) (by decide +kernel))) rfl
theorem ki_H_sinkFromTop : Cond.instanceMethod ⟨"NextPaths$PathHeap", "sinkFromTop", "(J)V"⟩ ∈ TT := tm (List.mem_append_right _ (List.mem_of_getElem? (i := 311) (by decide +kernel))) rfl
theorem k_H_25 : Cond.methodLink "NextPaths$PathHeap" (25 : Nat) ⟨"NextPaths$PathHeap", "lesserChild", "(I)I"⟩ ∈ TT := tm (List.mem_append_right _ (List.mem_of_getElem? (i := 313) (by decide +kernel))) rfl
theorem ki_H_lesserChild : Cond.instanceMethod ⟨"NextPaths$PathHeap", "lesserChild", "(I)I"⟩ ∈ TT := tm (List.mem_append_right _ (List.mem_of_getElem? (i := 315) (by decide +kernel))) rfl
theorem k_N_109 : Cond.methodLinkNest "NextPaths" (109 : Nat) ⟨"NextPaths$ToldPath", "tell", "(LNextPaths$Graph;J)I"⟩ "NextPaths" ∈ NN := nn_mem (List.mem_append_right _ (List.mem_of_getElem? (i := 317) (by decide +kernel))) rfl
theorem ki_T_tell : Cond.instanceMethod ⟨"NextPaths$ToldPath", "tell", "(LNextPaths$Graph;J)I"⟩ ∈ TT := tm (List.mem_append_right _ (List.mem_of_getElem? (i := 319) (by decide +kernel))) rfl
theorem k_T_19 : Cond.methodLinkNest "NextPaths$ToldPath" (19 : Nat) ⟨"NextPaths$PathCode", "lengthIn", "(J)I"⟩ "NextPaths" ∈ NN := nn_mem (List.mem_append_right _ (List.mem_of_getElem? (i := 321) (by decide +kernel))) rfl
theorem ks_C_lengthIn : Cond.static ⟨"NextPaths$PathCode", "lengthIn", "(J)I"⟩ ∈ TT := tm (List.mem_append_right _ (List.mem_of_getElem? (i := 322) (by decide +kernel))) rfl
theorem k_T_25 : Cond.methodLinkNest "NextPaths$ToldPath" (25 : Nat) ⟨"NextPaths$PathCode", "weightIn", "(J)I"⟩ "NextPaths" ∈ NN := nn_mem (List.mem_append_right _ (List.mem_of_getElem? (i := 324) (by decide +kernel))) rfl
theorem ks_C_weightIn : Cond.static ⟨"NextPaths$PathCode", "weightIn", "(J)I"⟩ ∈ TT := tm (List.mem_append_right _ (List.mem_of_getElem? (i := 325) (by decide +kernel))) rfl
theorem k_T_31 : Cond.methodLinkNest "NextPaths$ToldPath" (31 : Nat) ⟨"NextPaths$Graph", "secondOf", "(J)I"⟩ "NextPaths" ∈ NN := nn_mem (List.mem_append_right _ (List.mem_of_getElem? (i := 327) (by decide +kernel))) rfl
theorem ki_G_secondOf : Cond.instanceMethod ⟨"NextPaths$Graph", "secondOf", "(J)I"⟩ ∈ TT := tm (List.mem_append_right _ (List.mem_of_getElem? (i := 329) (by decide +kernel))) rfl
theorem k_G_57 : Cond.methodLinkNest "NextPaths$Graph" (57 : Nat) ⟨"NextPaths$PathCode", "lengthIn", "(J)I"⟩ "NextPaths" ∈ NN := nn_mem (List.mem_append_right _ (List.mem_of_getElem? (i := 331) (by decide +kernel))) rfl
theorem k_G_63 : Cond.methodLinkNest "NextPaths$Graph" (63 : Nat) ⟨"NextPaths$PathCode", "arcIn", "(JI)I"⟩ "NextPaths" ∈ NN := nn_mem (List.mem_append_right _ (List.mem_of_getElem? (i := 332) (by decide +kernel))) rfl
theorem ks_C_arcIn : Cond.static ⟨"NextPaths$PathCode", "arcIn", "(JI)I"⟩ ∈ TT := tm (List.mem_append_right _ (List.mem_of_getElem? (i := 333) (by decide +kernel))) rfl
theorem k_G_67 : Cond.methodLink "NextPaths$Graph" (67 : Nat) ⟨"NextPaths$Graph", "isArc", "(I)Z"⟩ ∈ TT := tm (List.mem_append_right _ (List.mem_of_getElem? (i := 335) (by decide +kernel))) rfl
theorem k_T_39 : Cond.methodLinkNest "NextPaths$ToldPath" (39 : Nat) ⟨"NextPaths$PathCode", "arcIn", "(JI)I"⟩ "NextPaths" ∈ NN := nn_mem (List.mem_append_right _ (List.mem_of_getElem? (i := 336) (by decide +kernel))) rfl
theorem k_L_41 : Cond.methodLink "NextPathsLaw" (41 : Nat) ⟨"NextPaths", "count", "(II)I"⟩ ∈ TT := tm (List.mem_append_right _ (List.mem_of_getElem? (i := 337) (by decide +kernel))) rfl
theorem ki_N_count : Cond.instanceMethod ⟨"NextPaths", "count", "(II)I"⟩ ∈ TT := tm (List.mem_append_right _ (List.mem_of_getElem? (i := 338) (by decide +kernel))) rfl
theorem kx_N_count : Cond.selects "NextPaths" ⟨"NextPaths", "count", "(II)I"⟩ ⟨"NextPaths", "count", "(II)I"⟩ ∈ TT := tm (List.mem_append_right _ (List.mem_of_getElem? (i := 339) (by decide +kernel))) rfl
theorem k_L_46 : Cond.methodLink "NextPathsLaw" (46 : Nat) ⟨"NextPaths", "apart", "(IIII)I"⟩ ∈ TT := tm (List.mem_append_right _ (List.mem_of_getElem? (i := 341) (by decide +kernel))) rfl
theorem ki_N_apart : Cond.instanceMethod ⟨"NextPaths", "apart", "(IIII)I"⟩ ∈ TT := tm (List.mem_append_right _ (List.mem_of_getElem? (i := 342) (by decide +kernel))) rfl
theorem kx_N_apart : Cond.selects "NextPaths" ⟨"NextPaths", "apart", "(IIII)I"⟩ ⟨"NextPaths", "apart", "(IIII)I"⟩ ∈ TT := tm (List.mem_append_right _ (List.mem_of_getElem? (i := 343) (by decide +kernel))) rfl
theorem k_N_113 : Cond.methodLinkNest "NextPaths" (113 : Nat) ⟨"NextPaths$Flow", "prepare", "(IIZ)V"⟩ "NextPaths" ∈ NN := nn_mem (List.mem_append_right _ (List.mem_of_getElem? (i := 345) (by decide +kernel))) rfl
theorem ki_F_prepare : Cond.instanceMethod ⟨"NextPaths$Flow", "prepare", "(IIZ)V"⟩ ∈ TT := tm (List.mem_append_right _ (List.mem_of_getElem? (i := 347) (by decide +kernel))) rfl
theorem k_F_38 : Cond.methodLink "NextPaths$Flow" (38 : Nat) ⟨"NextPaths$Flow", "exit", "(I)I"⟩ ∈ TT := tm (List.mem_append_right _ (List.mem_of_getElem? (i := 349) (by decide +kernel))) rfl
theorem ks_F_exit : Cond.static ⟨"NextPaths$Flow", "exit", "(I)I"⟩ ∈ TT := tm (List.mem_append_right _ (List.mem_of_getElem? (i := 350) (by decide +kernel))) rfl
theorem k_F_45 : Cond.methodLink "NextPaths$Flow" (45 : Nat) ⟨"NextPaths$Flow", "entry", "(I)I"⟩ ∈ TT := tm (List.mem_append_right _ (List.mem_of_getElem? (i := 352) (by decide +kernel))) rfl
theorem ks_F_entry : Cond.static ⟨"NextPaths$Flow", "entry", "(I)I"⟩ ∈ TT := tm (List.mem_append_right _ (List.mem_of_getElem? (i := 353) (by decide +kernel))) rfl
theorem k_F_69 : Cond.methodLink "NextPaths$Flow" (69 : Nat) ⟨"NextPaths$Flow", "addEdge", "(IIII)V"⟩ ∈ TT := tm (List.mem_append_right _ (List.mem_of_getElem? (i := 355) (by decide +kernel))) rfl
theorem ki_F_addEdge : Cond.instanceMethod ⟨"NextPaths$Flow", "addEdge", "(IIII)V"⟩ ∈ TT := tm (List.mem_append_right _ (List.mem_of_getElem? (i := 357) (by decide +kernel))) rfl
theorem k_F_76 : Cond.methodLink "NextPaths$Flow" (76 : Nat) ⟨"NextPaths$Flow", "setEdge", "(IIIII)V"⟩ ∈ TT := tm (List.mem_append_right _ (List.mem_of_getElem? (i := 359) (by decide +kernel))) rfl
theorem ki_F_setEdge : Cond.instanceMethod ⟨"NextPaths$Flow", "setEdge", "(IIIII)V"⟩ ∈ TT := tm (List.mem_append_right _ (List.mem_of_getElem? (i := 361) (by decide +kernel))) rfl
theorem k_N_117 : Cond.methodLinkNest "NextPaths" (117 : Nat) ⟨"NextPaths$Flow", "addPath", "()I"⟩ "NextPaths" ∈ NN := nn_mem (List.mem_append_right _ (List.mem_of_getElem? (i := 363) (by decide +kernel))) rfl
theorem ki_F_addPath : Cond.instanceMethod ⟨"NextPaths$Flow", "addPath", "()I"⟩ ∈ TT := tm (List.mem_append_right _ (List.mem_of_getElem? (i := 365) (by decide +kernel))) rfl
theorem k_F_80 : Cond.methodLink "NextPaths$Flow" (80 : Nat) ⟨"NextPaths$Flow", "measure", "()V"⟩ ∈ TT := tm (List.mem_append_right _ (List.mem_of_getElem? (i := 367) (by decide +kernel))) rfl
theorem ki_F_measure : Cond.instanceMethod ⟨"NextPaths$Flow", "measure", "()V"⟩ ∈ TT := tm (List.mem_append_right _ (List.mem_of_getElem? (i := 369) (by decide +kernel))) rfl
theorem k_F_83 : Cond.constant "NextPaths$Flow" (83 : Nat) (1000000 : Int32) ∈ TT := tm (List.mem_append_right _ (List.mem_of_getElem? (i := 371) (by decide +kernel))) rfl
theorem k_F_84 : Cond.methodLink "NextPaths$Flow" (84 : Nat) ⟨"java/util/Arrays", "fill", "([II)V"⟩ ∈ TT := tm (List.mem_append_right _ (List.mem_of_getElem? (i := 372) (by decide +kernel))) rfl
theorem k_F_90 : Cond.methodLink "NextPaths$Flow" (90 : Nat) ⟨"NextPaths$Flow", "tryEdge", "(I)Z"⟩ ∈ TT := tm (List.mem_append_right _ (List.mem_of_getElem? (i := 373) (by decide +kernel))) rfl
theorem ki_F_tryEdge : Cond.instanceMethod ⟨"NextPaths$Flow", "tryEdge", "(I)Z"⟩ ∈ TT := tm (List.mem_append_right _ (List.mem_of_getElem? (i := 375) (by decide +kernel))) rfl
theorem k_L_50 : Cond.methodLink "NextPathsLaw" (50 : Nat) ⟨"NextPaths", "most", "(III)I"⟩ ∈ TT := tm (List.mem_append_right _ (List.mem_of_getElem? (i := 377) (by decide +kernel))) rfl
theorem ki_N_most : Cond.instanceMethod ⟨"NextPaths", "most", "(III)I"⟩ ∈ TT := tm (List.mem_append_right _ (List.mem_of_getElem? (i := 378) (by decide +kernel))) rfl
theorem kx_N_most : Cond.selects "NextPaths" ⟨"NextPaths", "most", "(III)I"⟩ ⟨"NextPaths", "most", "(III)I"⟩ ∈ TT := tm (List.mem_append_right _ (List.mem_of_getElem? (i := 379) (by decide +kernel))) rfl
theorem k_L_54 : Cond.methodLink "NextPathsLaw" (54 : Nat) ⟨"NextPaths", "within", "(III)I"⟩ ∈ TT := tm (List.mem_append_right _ (List.mem_of_getElem? (i := 381) (by decide +kernel))) rfl
theorem ki_N_within : Cond.instanceMethod ⟨"NextPaths", "within", "(III)I"⟩ ∈ TT := tm (List.mem_append_right _ (List.mem_of_getElem? (i := 382) (by decide +kernel))) rfl
theorem kx_N_within : Cond.selects "NextPaths" ⟨"NextPaths", "within", "(III)I"⟩ ⟨"NextPaths", "within", "(III)I"⟩ ∈ TT := tm (List.mem_append_right _ (List.mem_of_getElem? (i := 383) (by decide +kernel))) rfl
theorem k_N_120 : Cond.methodLinkNest "NextPaths" (120 : Nat) ⟨"NextPaths$Graph", "secondOf", "(J)I"⟩ "NextPaths" ∈ NN := nn_mem (List.mem_append_right _ (List.mem_of_getElem? (i := 385) (by decide +kernel))) rfl
theorem k_L_58 : Cond.methodLink "NextPathsLaw" (58 : Nat) ⟨"NextPaths", "pairs", "(II)I"⟩ ∈ TT := tm (List.mem_append_right _ (List.mem_of_getElem? (i := 386) (by decide +kernel))) rfl
theorem ki_N_pairs : Cond.instanceMethod ⟨"NextPaths", "pairs", "(II)I"⟩ ∈ TT := tm (List.mem_append_right _ (List.mem_of_getElem? (i := 387) (by decide +kernel))) rfl
theorem kx_N_pairs : Cond.selects "NextPaths" ⟨"NextPaths", "pairs", "(II)I"⟩ ⟨"NextPaths", "pairs", "(II)I"⟩ ∈ TT := tm (List.mem_append_right _ (List.mem_of_getElem? (i := 388) (by decide +kernel))) rfl
theorem k_N_124 : Cond.methodLinkNest "NextPaths" (124 : Nat) ⟨"NextPaths$PathCode", "weightIn", "(J)I"⟩ "NextPaths" ∈ NN := nn_mem (List.mem_append_right _ (List.mem_of_getElem? (i := 390) (by decide +kernel))) rfl
theorem k_N_129 : Cond.methodLinkNest "NextPaths" (129 : Nat) ⟨"NextPaths$BestPairs", "offer", "(II)V"⟩ "NextPaths" ∈ NN := nn_mem (List.mem_append_right _ (List.mem_of_getElem? (i := 391) (by decide +kernel))) rfl
theorem ki_B_offer : Cond.instanceMethod ⟨"NextPaths$BestPairs", "offer", "(II)V"⟩ ∈ TT := tm (List.mem_append_right _ (List.mem_of_getElem? (i := 393) (by decide +kernel))) rfl
theorem k_L_62 : Cond.methodLink "NextPathsLaw" (62 : Nat) ⟨"NextPaths", "pair", "(II)I"⟩ ∈ TT := tm (List.mem_append_right _ (List.mem_of_getElem? (i := 395) (by decide +kernel))) rfl
theorem ki_N_pair : Cond.instanceMethod ⟨"NextPaths", "pair", "(II)I"⟩ ∈ TT := tm (List.mem_append_right _ (List.mem_of_getElem? (i := 396) (by decide +kernel))) rfl
theorem kx_N_pair : Cond.selects "NextPaths" ⟨"NextPaths", "pair", "(II)I"⟩ ⟨"NextPaths", "pair", "(II)I"⟩ ∈ TT := tm (List.mem_append_right _ (List.mem_of_getElem? (i := 397) (by decide +kernel))) rfl
theorem k_L_66 : Cond.methodLink "NextPathsLaw" (66 : Nat) ⟨"NextPaths", "step", "(I)I"⟩ ∈ TT := tm (List.mem_append_right _ (List.mem_of_getElem? (i := 399) (by decide +kernel))) rfl
theorem ki_N_step : Cond.instanceMethod ⟨"NextPaths", "step", "(I)I"⟩ ∈ TT := tm (List.mem_append_right _ (List.mem_of_getElem? (i := 400) (by decide +kernel))) rfl
theorem kx_N_step : Cond.selects "NextPaths" ⟨"NextPaths", "step", "(I)I"⟩ ⟨"NextPaths", "step", "(I)I"⟩ ∈ TT := tm (List.mem_append_right _ (List.mem_of_getElem? (i := 401) (by decide +kernel))) rfl
theorem k_L_71 : Cond.methodLink "NextPathsLaw" (71 : Nat) ⟨"NextPaths", "sum", "(I)I"⟩ ∈ TT := tm (List.mem_append_right _ (List.mem_of_getElem? (i := 403) (by decide +kernel))) rfl
theorem ki_N_sum : Cond.instanceMethod ⟨"NextPaths", "sum", "(I)I"⟩ ∈ TT := tm (List.mem_append_right _ (List.mem_of_getElem? (i := 404) (by decide +kernel))) rfl
theorem kx_N_sum : Cond.selects "NextPaths" ⟨"NextPaths", "sum", "(I)I"⟩ ⟨"NextPaths", "sum", "(I)I"⟩ ∈ TT := tm (List.mem_append_right _ (List.mem_of_getElem? (i := 405) (by decide +kernel))) rfl
theorem k_L_75 : Cond.methodLink "NextPathsLaw" (75 : Nat) ⟨"NextPaths", "told", "(II)I"⟩ ∈ TT := tm (List.mem_append_right _ (List.mem_of_getElem? (i := 407) (by decide +kernel))) rfl
theorem ki_N_told : Cond.instanceMethod ⟨"NextPaths", "told", "(II)I"⟩ ∈ TT := tm (List.mem_append_right _ (List.mem_of_getElem? (i := 408) (by decide +kernel))) rfl
theorem kx_N_told : Cond.selects "NextPaths" ⟨"NextPaths", "told", "(II)I"⟩ ⟨"NextPaths", "told", "(II)I"⟩ ∈ TT := tm (List.mem_append_right _ (List.mem_of_getElem? (i := 409) (by decide +kernel))) rfl
theorem k_L_79 : Cond.methodLink "NextPathsLaw" (79 : Nat) ⟨"NextPaths", "of", "(I)I"⟩ ∈ TT := tm (List.mem_append_right _ (List.mem_of_getElem? (i := 411) (by decide +kernel))) rfl
theorem ki_N_of : Cond.instanceMethod ⟨"NextPaths", "of", "(I)I"⟩ ∈ TT := tm (List.mem_append_right _ (List.mem_of_getElem? (i := 412) (by decide +kernel))) rfl
theorem kx_N_of : Cond.selects "NextPaths" ⟨"NextPaths", "of", "(I)I"⟩ ⟨"NextPaths", "of", "(I)I"⟩ ∈ TT := tm (List.mem_append_right _ (List.mem_of_getElem? (i := 413) (by decide +kernel))) rfl
theorem k_N_158 : Cond.methodLinkNest "NextPaths" (158 : Nat) ⟨"NextPaths$Graph", "shutArcs", "()I"⟩ "NextPaths" ∈ NN := nn_mem (List.mem_append_right _ (List.mem_of_getElem? (i := 415) (by decide +kernel))) rfl
theorem ki_G_shutArcs : Cond.instanceMethod ⟨"NextPaths$Graph", "shutArcs", "()I"⟩ ∈ TT := tm (List.mem_append_right _ (List.mem_of_getElem? (i := 417) (by decide +kernel))) rfl
theorem k_L_10 : Cond.classLink "NextPathsLaw" (10 : Nat) "NextPathsModel" ∈ TT := tm (List.mem_append_right _ (List.mem_of_getElem? (i := 419) (by decide +kernel))) rfl
theorem kz_M : Cond.instantiable "NextPathsModel" (28 : Nat) ∈ TT := tm (List.mem_append_right _ (List.mem_of_getElem? (i := 420) (by decide +kernel))) rfl
theorem k_L_12 : Cond.methodLink "NextPathsLaw" (12 : Nat) ⟨"NextPathsModel", "<init>", "()V"⟩ ∈ TT := tm (List.mem_append_right _ (List.mem_of_getElem? (i := 421) (by decide +kernel))) rfl
theorem ki_M_init : Cond.instanceMethod ⟨"NextPathsModel", "<init>", "()V"⟩ ∈ TT := tm (List.mem_append_right _ (List.mem_of_getElem? (i := 422) (by decide +kernel))) rfl
theorem k_M_1 : Cond.methodLink "NextPathsModel" (1 : Nat) ⟨"java/lang/Object", "<init>", "()V"⟩ ∈ TT := tm (List.mem_append_right _ (List.mem_of_getElem? (i := 424) (by decide +kernel))) rfl
theorem k_M_69 : Cond.fieldLink "NextPathsModel" (69 : Nat) "NextPathsModel" "nodes" "I" ∈ TT := tm (List.mem_append_right _ (List.mem_of_getElem? (i := 425) (by decide +kernel))) rfl
theorem k_M_73 : Cond.fieldLink "NextPathsModel" (73 : Nat) "NextPathsModel" "arcs" "I" ∈ TT := tm (List.mem_append_right _ (List.mem_of_getElem? (i := 426) (by decide +kernel))) rfl
theorem k_M_7 : Cond.fieldLink "NextPathsModel" (7 : Nat) "NextPathsModel" "from" "[I" ∈ TT := tm (List.mem_append_right _ (List.mem_of_getElem? (i := 427) (by decide +kernel))) rfl
theorem k_M_13 : Cond.fieldLink "NextPathsModel" (13 : Nat) "NextPathsModel" "to" "[I" ∈ TT := tm (List.mem_append_right _ (List.mem_of_getElem? (i := 428) (by decide +kernel))) rfl
theorem k_M_16 : Cond.fieldLink "NextPathsModel" (16 : Nat) "NextPathsModel" "weight" "[I" ∈ TT := tm (List.mem_append_right _ (List.mem_of_getElem? (i := 429) (by decide +kernel))) rfl
theorem k_M_19 : Cond.fieldLink "NextPathsModel" (19 : Nat) "NextPathsModel" "second" "[I" ∈ TT := tm (List.mem_append_right _ (List.mem_of_getElem? (i := 430) (by decide +kernel))) rfl
theorem k_M_22 : Cond.fieldLink "NextPathsModel" (22 : Nat) "NextPathsModel" "isShut" "[Z" ∈ TT := tm (List.mem_append_right _ (List.mem_of_getElem? (i := 431) (by decide +kernel))) rfl
theorem k_M_98 : Cond.fieldLink "NextPathsModel" (98 : Nat) "NextPathsModel" "paths" "I" ∈ TT := tm (List.mem_append_right _ (List.mem_of_getElem? (i := 432) (by decide +kernel))) rfl
theorem k_M_26 : Cond.fieldLink "NextPathsModel" (26 : Nat) "NextPathsModel" "weights" "[I" ∈ TT := tm (List.mem_append_right _ (List.mem_of_getElem? (i := 433) (by decide +kernel))) rfl
theorem k_M_29 : Cond.fieldLink "NextPathsModel" (29 : Nat) "NextPathsModel" "seconds" "[I" ∈ TT := tm (List.mem_append_right _ (List.mem_of_getElem? (i := 434) (by decide +kernel))) rfl
theorem k_M_32 : Cond.fieldLink "NextPathsModel" (32 : Nat) "NextPathsModel" "rows" "[J" ∈ TT := tm (List.mem_append_right _ (List.mem_of_getElem? (i := 435) (by decide +kernel))) rfl
theorem k_M_36 : Cond.fieldLink "NextPathsModel" (36 : Nat) "NextPathsModel" "lengths" "[I" ∈ TT := tm (List.mem_append_right _ (List.mem_of_getElem? (i := 436) (by decide +kernel))) rfl
theorem k_M_39 : Cond.fieldLink "NextPathsModel" (39 : Nat) "NextPathsModel" "arcSets" "[I" ∈ TT := tm (List.mem_append_right _ (List.mem_of_getElem? (i := 437) (by decide +kernel))) rfl
theorem k_M_42 : Cond.fieldLink "NextPathsModel" (42 : Nat) "NextPathsModel" "nodeSets" "[I" ∈ TT := tm (List.mem_append_right _ (List.mem_of_getElem? (i := 438) (by decide +kernel))) rfl
theorem k_M_76 : Cond.fieldLink "NextPathsModel" (76 : Nat) "NextPathsModel" "isTold" "Z" ∈ TT := tm (List.mem_append_right _ (List.mem_of_getElem? (i := 439) (by decide +kernel))) rfl
theorem k_M_109 : Cond.fieldLink "NextPathsModel" (109 : Nat) "NextPathsModel" "toldWeight" "I" ∈ TT := tm (List.mem_append_right _ (List.mem_of_getElem? (i := 440) (by decide +kernel))) rfl
theorem k_M_112 : Cond.fieldLink "NextPathsModel" (112 : Nat) "NextPathsModel" "toldSecond" "I" ∈ TT := tm (List.mem_append_right _ (List.mem_of_getElem? (i := 441) (by decide +kernel))) rfl
theorem k_M_115 : Cond.fieldLink "NextPathsModel" (115 : Nat) "NextPathsModel" "toldLength" "I" ∈ TT := tm (List.mem_append_right _ (List.mem_of_getElem? (i := 442) (by decide +kernel))) rfl
theorem k_M_118 : Cond.fieldLink "NextPathsModel" (118 : Nat) "NextPathsModel" "toldRow" "J" ∈ TT := tm (List.mem_append_right _ (List.mem_of_getElem? (i := 443) (by decide +kernel))) rfl
theorem k_M_80 : Cond.fieldLink "NextPathsModel" (80 : Nat) "NextPathsModel" "found" "I" ∈ TT := tm (List.mem_append_right _ (List.mem_of_getElem? (i := 444) (by decide +kernel))) rfl
theorem k_M_45 : Cond.fieldLink "NextPathsModel" (45 : Nat) "NextPathsModel" "foundWeight" "[I" ∈ TT := tm (List.mem_append_right _ (List.mem_of_getElem? (i := 445) (by decide +kernel))) rfl
theorem k_M_48 : Cond.fieldLink "NextPathsModel" (48 : Nat) "NextPathsModel" "foundSecond" "[I" ∈ TT := tm (List.mem_append_right _ (List.mem_of_getElem? (i := 446) (by decide +kernel))) rfl
theorem k_M_51 : Cond.fieldLink "NextPathsModel" (51 : Nat) "NextPathsModel" "tried" "[I" ∈ TT := tm (List.mem_append_right _ (List.mem_of_getElem? (i := 447) (by decide +kernel))) rfl
theorem k_M_54 : Cond.fieldLink "NextPathsModel" (54 : Nat) "NextPathsModel" "stands" "[I" ∈ TT := tm (List.mem_append_right _ (List.mem_of_getElem? (i := 448) (by decide +kernel))) rfl
theorem k_M_57 : Cond.fieldLink "NextPathsModel" (57 : Nat) "NextPathsModel" "chosen" "[I" ∈ TT := tm (List.mem_append_right _ (List.mem_of_getElem? (i := 449) (by decide +kernel))) rfl
theorem k_M_60 : Cond.fieldLink "NextPathsModel" (60 : Nat) "NextPathsModel" "sums" "[I" ∈ TT := tm (List.mem_append_right _ (List.mem_of_getElem? (i := 450) (by decide +kernel))) rfl
theorem k_M_63 : Cond.fieldLink "NextPathsModel" (63 : Nat) "NextPathsModel" "usedArcs" "[I" ∈ TT := tm (List.mem_append_right _ (List.mem_of_getElem? (i := 451) (by decide +kernel))) rfl
theorem k_M_66 : Cond.fieldLink "NextPathsModel" (66 : Nat) "NextPathsModel" "usedNodes" "[I" ∈ TT := tm (List.mem_append_right _ (List.mem_of_getElem? (i := 452) (by decide +kernel))) rfl
theorem k_L_17 : Cond.methodLink "NextPathsLaw" (17 : Nat) ⟨"NextPathsModel", "clear", "()I"⟩ ∈ TT := tm (List.mem_append_right _ (List.mem_of_getElem? (i := 510) (by decide +kernel))) rfl
theorem ki_M_clear : Cond.instanceMethod ⟨"NextPathsModel", "clear", "()I"⟩ ∈ TT := tm (List.mem_append_right _ (List.mem_of_getElem? (i := 511) (by decide +kernel))) rfl
theorem kx_M_clear : Cond.selects "NextPathsModel" ⟨"NextPathsModel", "clear", "()I"⟩ ⟨"NextPathsModel", "clear", "()I"⟩ ∈ TT := tm (List.mem_append_right _ (List.mem_of_getElem? (i := 512) (by decide +kernel))) rfl
theorem k_L_21 : Cond.methodLink "NextPathsLaw" (21 : Nat) ⟨"NextPathsModel", "node", "()I"⟩ ∈ TT := tm (List.mem_append_right _ (List.mem_of_getElem? (i := 514) (by decide +kernel))) rfl
theorem ki_M_node : Cond.instanceMethod ⟨"NextPathsModel", "node", "()I"⟩ ∈ TT := tm (List.mem_append_right _ (List.mem_of_getElem? (i := 515) (by decide +kernel))) rfl
theorem kx_M_node : Cond.selects "NextPathsModel" ⟨"NextPathsModel", "node", "()I"⟩ ⟨"NextPathsModel", "node", "()I"⟩ ∈ TT := tm (List.mem_append_right _ (List.mem_of_getElem? (i := 516) (by decide +kernel))) rfl
theorem k_L_26 : Cond.methodLink "NextPathsLaw" (26 : Nat) ⟨"NextPathsModel", "arc", "(IIII)I"⟩ ∈ TT := tm (List.mem_append_right _ (List.mem_of_getElem? (i := 518) (by decide +kernel))) rfl
theorem ki_M_arc : Cond.instanceMethod ⟨"NextPathsModel", "arc", "(IIII)I"⟩ ∈ TT := tm (List.mem_append_right _ (List.mem_of_getElem? (i := 519) (by decide +kernel))) rfl
theorem kx_M_arc : Cond.selects "NextPathsModel" ⟨"NextPathsModel", "arc", "(IIII)I"⟩ ⟨"NextPathsModel", "arc", "(IIII)I"⟩ ∈ TT := tm (List.mem_append_right _ (List.mem_of_getElem? (i := 520) (by decide +kernel))) rfl
theorem k_M_91 : Cond.methodLink "NextPathsModel" (91 : Nat) ⟨"NextPathsModel", "areTwo", "(II)Z"⟩ ∈ TT := tm (List.mem_append_right _ (List.mem_of_getElem? (i := 522) (by decide +kernel))) rfl
theorem ki_M_areTwo : Cond.instanceMethod ⟨"NextPathsModel", "areTwo", "(II)Z"⟩ ∈ TT := tm (List.mem_append_right _ (List.mem_of_getElem? (i := 524) (by decide +kernel))) rfl
theorem k_M_87 : Cond.methodLink "NextPathsModel" (87 : Nat) ⟨"NextPathsModel", "isNode", "(I)Z"⟩ ∈ TT := tm (List.mem_append_right _ (List.mem_of_getElem? (i := 526) (by decide +kernel))) rfl
theorem ki_M_isNode : Cond.instanceMethod ⟨"NextPathsModel", "isNode", "(I)Z"⟩ ∈ TT := tm (List.mem_append_right _ (List.mem_of_getElem? (i := 528) (by decide +kernel))) rfl
theorem k_M_83 : Cond.methodLink "NextPathsModel" (83 : Nat) ⟨"NextPathsModel", "isIn", "(III)Z"⟩ ∈ TT := tm (List.mem_append_right _ (List.mem_of_getElem? (i := 530) (by decide +kernel))) rfl
theorem ks_M_isIn : Cond.static ⟨"NextPathsModel", "isIn", "(III)Z"⟩ ∈ TT := tm (List.mem_append_right _ (List.mem_of_getElem? (i := 531) (by decide +kernel))) rfl
theorem k_L_31 : Cond.methodLink "NextPathsLaw" (31 : Nat) ⟨"NextPathsModel", "change", "(III)I"⟩ ∈ TT := tm (List.mem_append_right _ (List.mem_of_getElem? (i := 533) (by decide +kernel))) rfl
theorem ki_M_change : Cond.instanceMethod ⟨"NextPathsModel", "change", "(III)I"⟩ ∈ TT := tm (List.mem_append_right _ (List.mem_of_getElem? (i := 534) (by decide +kernel))) rfl
theorem kx_M_change : Cond.selects "NextPathsModel" ⟨"NextPathsModel", "change", "(III)I"⟩ ⟨"NextPathsModel", "change", "(III)I"⟩ ∈ TT := tm (List.mem_append_right _ (List.mem_of_getElem? (i := 535) (by decide +kernel))) rfl
theorem k_M_95 : Cond.methodLink "NextPathsModel" (95 : Nat) ⟨"NextPathsModel", "isArc", "(I)Z"⟩ ∈ TT := tm (List.mem_append_right _ (List.mem_of_getElem? (i := 537) (by decide +kernel))) rfl
theorem ki_M_isArc : Cond.instanceMethod ⟨"NextPathsModel", "isArc", "(I)Z"⟩ ∈ TT := tm (List.mem_append_right _ (List.mem_of_getElem? (i := 539) (by decide +kernel))) rfl
theorem k_L_36 : Cond.methodLink "NextPathsLaw" (36 : Nat) ⟨"NextPathsModel", "shut", "(IZ)I"⟩ ∈ TT := tm (List.mem_append_right _ (List.mem_of_getElem? (i := 541) (by decide +kernel))) rfl
theorem ki_M_shut : Cond.instanceMethod ⟨"NextPathsModel", "shut", "(IZ)I"⟩ ∈ TT := tm (List.mem_append_right _ (List.mem_of_getElem? (i := 542) (by decide +kernel))) rfl
theorem kx_M_shut : Cond.selects "NextPathsModel" ⟨"NextPathsModel", "shut", "(IZ)I"⟩ ⟨"NextPathsModel", "shut", "(IZ)I"⟩ ∈ TT := tm (List.mem_append_right _ (List.mem_of_getElem? (i := 543) (by decide +kernel))) rfl
theorem k_L_40 : Cond.methodLink "NextPathsLaw" (40 : Nat) ⟨"NextPathsModel", "next", "(III)I"⟩ ∈ TT := tm (List.mem_append_right _ (List.mem_of_getElem? (i := 545) (by decide +kernel))) rfl
theorem ki_M_next : Cond.instanceMethod ⟨"NextPathsModel", "next", "(III)I"⟩ ∈ TT := tm (List.mem_append_right _ (List.mem_of_getElem? (i := 546) (by decide +kernel))) rfl
theorem kx_M_next : Cond.selects "NextPathsModel" ⟨"NextPathsModel", "next", "(III)I"⟩ ⟨"NextPathsModel", "next", "(III)I"⟩ ∈ TT := tm (List.mem_append_right _ (List.mem_of_getElem? (i := 547) (by decide +kernel))) rfl
theorem k_M_122 : Cond.methodLink "NextPathsModel" (122 : Nat) ⟨"NextPathsModel", "find", "(II)V"⟩ ∈ TT := tm (List.mem_append_right _ (List.mem_of_getElem? (i := 549) (by decide +kernel))) rfl
theorem ki_M_find : Cond.instanceMethod ⟨"NextPathsModel", "find", "(II)V"⟩ ∈ TT := tm (List.mem_append_right _ (List.mem_of_getElem? (i := 551) (by decide +kernel))) rfl
theorem k_M_101 : Cond.methodLink "NextPathsModel" (101 : Nat) ⟨"NextPathsModel", "keep", "(I)V"⟩ ∈ TT := tm (List.mem_append_right _ (List.mem_of_getElem? (i := 553) (by decide +kernel))) rfl
theorem ki_M_keep : Cond.instanceMethod ⟨"NextPathsModel", "keep", "(I)V"⟩ ∈ TT := tm (List.mem_append_right _ (List.mem_of_getElem? (i := 555) (by decide +kernel))) rfl
theorem k_M_105 : Cond.methodLink "NextPathsModel" (105 : Nat) ⟨"NextPathsModel", "isAhead", "(IIJI)Z"⟩ ∈ TT := tm (List.mem_append_right _ (List.mem_of_getElem? (i := 557) (by decide +kernel))) rfl
theorem ki_M_isAhead : Cond.instanceMethod ⟨"NextPathsModel", "isAhead", "(IIJI)Z"⟩ ∈ TT := tm (List.mem_append_right _ (List.mem_of_getElem? (i := 559) (by decide +kernel))) rfl
theorem k_M_126 : Cond.methodLink "NextPathsModel" (126 : Nat) ⟨"NextPathsModel", "tell", "(I)I"⟩ ∈ TT := tm (List.mem_append_right _ (List.mem_of_getElem? (i := 561) (by decide +kernel))) rfl
theorem ki_M_tell : Cond.instanceMethod ⟨"NextPathsModel", "tell", "(I)I"⟩ ∈ TT := tm (List.mem_append_right _ (List.mem_of_getElem? (i := 563) (by decide +kernel))) rfl
theorem k_L_45 : Cond.methodLink "NextPathsLaw" (45 : Nat) ⟨"NextPathsModel", "count", "(II)I"⟩ ∈ TT := tm (List.mem_append_right _ (List.mem_of_getElem? (i := 565) (by decide +kernel))) rfl
theorem ki_M_count : Cond.instanceMethod ⟨"NextPathsModel", "count", "(II)I"⟩ ∈ TT := tm (List.mem_append_right _ (List.mem_of_getElem? (i := 566) (by decide +kernel))) rfl
theorem kx_M_count : Cond.selects "NextPathsModel" ⟨"NextPathsModel", "count", "(II)I"⟩ ⟨"NextPathsModel", "count", "(II)I"⟩ ∈ TT := tm (List.mem_append_right _ (List.mem_of_getElem? (i := 567) (by decide +kernel))) rfl
theorem k_L_49 : Cond.methodLink "NextPathsLaw" (49 : Nat) ⟨"NextPathsModel", "apart", "(IIII)I"⟩ ∈ TT := tm (List.mem_append_right _ (List.mem_of_getElem? (i := 569) (by decide +kernel))) rfl
theorem ki_M_apart : Cond.instanceMethod ⟨"NextPathsModel", "apart", "(IIII)I"⟩ ∈ TT := tm (List.mem_append_right _ (List.mem_of_getElem? (i := 570) (by decide +kernel))) rfl
theorem kx_M_apart : Cond.selects "NextPathsModel" ⟨"NextPathsModel", "apart", "(IIII)I"⟩ ⟨"NextPathsModel", "apart", "(IIII)I"⟩ ∈ TT := tm (List.mem_append_right _ (List.mem_of_getElem? (i := 571) (by decide +kernel))) rfl
theorem k_M_130 : Cond.methodLink "NextPathsModel" (130 : Nat) ⟨"NextPathsModel", "most", "(III)I"⟩ ∈ TT := tm (List.mem_append_right _ (List.mem_of_getElem? (i := 573) (by decide +kernel))) rfl
theorem ki_M_most : Cond.instanceMethod ⟨"NextPathsModel", "most", "(III)I"⟩ ∈ TT := tm (List.mem_append_right _ (List.mem_of_getElem? (i := 574) (by decide +kernel))) rfl
theorem kx_M_most : Cond.selects "NextPathsModel" ⟨"NextPathsModel", "most", "(III)I"⟩ ⟨"NextPathsModel", "most", "(III)I"⟩ ∈ TT := tm (List.mem_append_right _ (List.mem_of_getElem? (i := 575) (by decide +kernel))) rfl
theorem k_M_134 : Cond.methodLink "NextPathsModel" (134 : Nat) ⟨"NextPathsModel", "out", "(I)I"⟩ ∈ TT := tm (List.mem_append_right _ (List.mem_of_getElem? (i := 577) (by decide +kernel))) rfl
theorem ki_M_out : Cond.instanceMethod ⟨"NextPathsModel", "out", "(I)I"⟩ ∈ TT := tm (List.mem_append_right _ (List.mem_of_getElem? (i := 579) (by decide +kernel))) rfl
theorem k_M_137 : Cond.methodLink "NextPathsModel" (137 : Nat) ⟨"NextPathsModel", "isJoined", "(III)Z"⟩ ∈ TT := tm (List.mem_append_right _ (List.mem_of_getElem? (i := 581) (by decide +kernel))) rfl
theorem ki_M_isJoined : Cond.instanceMethod ⟨"NextPathsModel", "isJoined", "(III)Z"⟩ ∈ TT := tm (List.mem_append_right _ (List.mem_of_getElem? (i := 583) (by decide +kernel))) rfl
theorem k_M_140 : Cond.methodLink "NextPathsModel" (140 : Nat) ⟨"NextPathsModel", "many", "(I)I"⟩ ∈ TT := tm (List.mem_append_right _ (List.mem_of_getElem? (i := 585) (by decide +kernel))) rfl
theorem ks_M_many : Cond.static ⟨"NextPathsModel", "many", "(I)I"⟩ ∈ TT := tm (List.mem_append_right _ (List.mem_of_getElem? (i := 586) (by decide +kernel))) rfl
theorem k_L_53 : Cond.methodLink "NextPathsLaw" (53 : Nat) ⟨"NextPathsModel", "most", "(III)I"⟩ ∈ TT := tm (List.mem_append_right _ (List.mem_of_getElem? (i := 588) (by decide +kernel))) rfl
theorem k_L_57 : Cond.methodLink "NextPathsLaw" (57 : Nat) ⟨"NextPathsModel", "within", "(III)I"⟩ ∈ TT := tm (List.mem_append_right _ (List.mem_of_getElem? (i := 589) (by decide +kernel))) rfl
theorem ki_M_within : Cond.instanceMethod ⟨"NextPathsModel", "within", "(III)I"⟩ ∈ TT := tm (List.mem_append_right _ (List.mem_of_getElem? (i := 590) (by decide +kernel))) rfl
theorem kx_M_within : Cond.selects "NextPathsModel" ⟨"NextPathsModel", "within", "(III)I"⟩ ⟨"NextPathsModel", "within", "(III)I"⟩ ∈ TT := tm (List.mem_append_right _ (List.mem_of_getElem? (i := 591) (by decide +kernel))) rfl
theorem k_L_61 : Cond.methodLink "NextPathsLaw" (61 : Nat) ⟨"NextPathsModel", "pairs", "(II)I"⟩ ∈ TT := tm (List.mem_append_right _ (List.mem_of_getElem? (i := 593) (by decide +kernel))) rfl
theorem ki_M_pairs : Cond.instanceMethod ⟨"NextPathsModel", "pairs", "(II)I"⟩ ∈ TT := tm (List.mem_append_right _ (List.mem_of_getElem? (i := 594) (by decide +kernel))) rfl
theorem kx_M_pairs : Cond.selects "NextPathsModel" ⟨"NextPathsModel", "pairs", "(II)I"⟩ ⟨"NextPathsModel", "pairs", "(II)I"⟩ ∈ TT := tm (List.mem_append_right _ (List.mem_of_getElem? (i := 595) (by decide +kernel))) rfl
theorem k_M_143 : Cond.methodLink "NextPathsModel" (143 : Nat) ⟨"NextPathsModel", "isBettered", "(I)Z"⟩ ∈ TT := tm (List.mem_append_right _ (List.mem_of_getElem? (i := 597) (by decide +kernel))) rfl
theorem ki_M_isBettered : Cond.instanceMethod ⟨"NextPathsModel", "isBettered", "(I)Z"⟩ ∈ TT := tm (List.mem_append_right _ (List.mem_of_getElem? (i := 599) (by decide +kernel))) rfl
theorem k_L_65 : Cond.methodLink "NextPathsLaw" (65 : Nat) ⟨"NextPathsModel", "pair", "(II)I"⟩ ∈ TT := tm (List.mem_append_right _ (List.mem_of_getElem? (i := 601) (by decide +kernel))) rfl
theorem ki_M_pair : Cond.instanceMethod ⟨"NextPathsModel", "pair", "(II)I"⟩ ∈ TT := tm (List.mem_append_right _ (List.mem_of_getElem? (i := 602) (by decide +kernel))) rfl
theorem kx_M_pair : Cond.selects "NextPathsModel" ⟨"NextPathsModel", "pair", "(II)I"⟩ ⟨"NextPathsModel", "pair", "(II)I"⟩ ∈ TT := tm (List.mem_append_right _ (List.mem_of_getElem? (i := 603) (by decide +kernel))) rfl
theorem k_L_70 : Cond.methodLink "NextPathsLaw" (70 : Nat) ⟨"NextPathsModel", "step", "(I)I"⟩ ∈ TT := tm (List.mem_append_right _ (List.mem_of_getElem? (i := 605) (by decide +kernel))) rfl
theorem ki_M_step : Cond.instanceMethod ⟨"NextPathsModel", "step", "(I)I"⟩ ∈ TT := tm (List.mem_append_right _ (List.mem_of_getElem? (i := 606) (by decide +kernel))) rfl
theorem kx_M_step : Cond.selects "NextPathsModel" ⟨"NextPathsModel", "step", "(I)I"⟩ ⟨"NextPathsModel", "step", "(I)I"⟩ ∈ TT := tm (List.mem_append_right _ (List.mem_of_getElem? (i := 607) (by decide +kernel))) rfl
theorem k_M_146 : Cond.constantLong "NextPathsModel" (146 : Nat) (31 : Int64) ∈ TT := tm (List.mem_append_right _ (List.mem_of_getElem? (i := 609) (by decide +kernel))) rfl
theorem k_L_74 : Cond.methodLink "NextPathsLaw" (74 : Nat) ⟨"NextPathsModel", "sum", "(I)I"⟩ ∈ TT := tm (List.mem_append_right _ (List.mem_of_getElem? (i := 610) (by decide +kernel))) rfl
theorem ki_M_sum : Cond.instanceMethod ⟨"NextPathsModel", "sum", "(I)I"⟩ ∈ TT := tm (List.mem_append_right _ (List.mem_of_getElem? (i := 611) (by decide +kernel))) rfl
theorem kx_M_sum : Cond.selects "NextPathsModel" ⟨"NextPathsModel", "sum", "(I)I"⟩ ⟨"NextPathsModel", "sum", "(I)I"⟩ ∈ TT := tm (List.mem_append_right _ (List.mem_of_getElem? (i := 612) (by decide +kernel))) rfl
theorem k_L_78 : Cond.methodLink "NextPathsLaw" (78 : Nat) ⟨"NextPathsModel", "told", "(II)I"⟩ ∈ TT := tm (List.mem_append_right _ (List.mem_of_getElem? (i := 614) (by decide +kernel))) rfl
theorem ki_M_told : Cond.instanceMethod ⟨"NextPathsModel", "told", "(II)I"⟩ ∈ TT := tm (List.mem_append_right _ (List.mem_of_getElem? (i := 615) (by decide +kernel))) rfl
theorem kx_M_told : Cond.selects "NextPathsModel" ⟨"NextPathsModel", "told", "(II)I"⟩ ⟨"NextPathsModel", "told", "(II)I"⟩ ∈ TT := tm (List.mem_append_right _ (List.mem_of_getElem? (i := 616) (by decide +kernel))) rfl
theorem k_L_82 : Cond.methodLink "NextPathsLaw" (82 : Nat) ⟨"NextPathsModel", "of", "(I)I"⟩ ∈ TT := tm (List.mem_append_right _ (List.mem_of_getElem? (i := 618) (by decide +kernel))) rfl
theorem ki_M_of : Cond.instanceMethod ⟨"NextPathsModel", "of", "(I)I"⟩ ∈ TT := tm (List.mem_append_right _ (List.mem_of_getElem? (i := 619) (by decide +kernel))) rfl
theorem kx_M_of : Cond.selects "NextPathsModel" ⟨"NextPathsModel", "of", "(I)I"⟩ ⟨"NextPathsModel", "of", "(I)I"⟩ ∈ TT := tm (List.mem_append_right _ (List.mem_of_getElem? (i := 620) (by decide +kernel))) rfl
theorem kx_M_isNode : Cond.selects "NextPathsModel" y_M_isNode y_M_isNode ∈ TT := tm (List.mem_append_left _ (List.mem_of_getElem? (i := 26) (by decide +kernel))) rfl
theorem kx_M_isArc : Cond.selects "NextPathsModel" y_M_isArc y_M_isArc ∈ TT := tm (List.mem_append_left _ (List.mem_of_getElem? (i := 27) (by decide +kernel))) rfl
theorem kx_M_areTwo : Cond.selects "NextPathsModel" y_M_areTwo y_M_areTwo ∈ TT := tm (List.mem_append_left _ (List.mem_of_getElem? (i := 25) (by decide +kernel))) rfl
theorem kx_M_find : Cond.selects "NextPathsModel" y_M_find y_M_find ∈ TT := tm (List.mem_append_left _ (List.mem_of_getElem? (i := 28) (by decide +kernel))) rfl
theorem kx_M_keep : Cond.selects "NextPathsModel" y_M_keep y_M_keep ∈ TT := tm (List.mem_append_left _ (List.mem_of_getElem? (i := 29) (by decide +kernel))) rfl
theorem kx_M_isAhead : Cond.selects "NextPathsModel" y_M_isAhead y_M_isAhead ∈ TT := tm (List.mem_append_left _ (List.mem_of_getElem? (i := 30) (by decide +kernel))) rfl
theorem kx_M_tell : Cond.selects "NextPathsModel" y_M_tell y_M_tell ∈ TT := tm (List.mem_append_left _ (List.mem_of_getElem? (i := 31) (by decide +kernel))) rfl
theorem kx_M_out : Cond.selects "NextPathsModel" y_M_out y_M_out ∈ TT := tm (List.mem_append_left _ (List.mem_of_getElem? (i := 32) (by decide +kernel))) rfl
theorem kx_M_isJoined : Cond.selects "NextPathsModel" y_M_isJoined y_M_isJoined ∈ TT := tm (List.mem_append_left _ (List.mem_of_getElem? (i := 33) (by decide +kernel))) rfl
theorem kx_M_isBettered : Cond.selects "NextPathsModel" y_M_isBettered y_M_isBettered ∈ TT := tm (List.mem_append_left _ (List.mem_of_getElem? (i := 34) (by decide +kernel))) rfl
theorem kx_B_empty : Cond.selects "NextPaths$BestPairs" y_B_empty y_B_empty ∈ TT := tm (List.mem_append_left _ (List.mem_of_getElem? (i := 2) (by decide +kernel))) rfl
theorem kx_B_offer : Cond.selects "NextPaths$BestPairs" y_B_offer y_B_offer ∈ TT := tm (List.mem_append_left _ (List.mem_of_getElem? (i := 23) (by decide +kernel))) rfl
theorem kx_F_prepare : Cond.selects "NextPaths$Flow" y_F_prepare y_F_prepare ∈ TT := tm (List.mem_append_left _ (List.mem_of_getElem? (i := 17) (by decide +kernel))) rfl
theorem kx_F_addEdge : Cond.selects "NextPaths$Flow" y_F_addEdge y_F_addEdge ∈ TT := tm (List.mem_append_left _ (List.mem_of_getElem? (i := 18) (by decide +kernel))) rfl
theorem kx_F_setEdge : Cond.selects "NextPaths$Flow" y_F_setEdge y_F_setEdge ∈ TT := tm (List.mem_append_left _ (List.mem_of_getElem? (i := 19) (by decide +kernel))) rfl
theorem kx_F_addPath : Cond.selects "NextPaths$Flow" y_F_addPath y_F_addPath ∈ TT := tm (List.mem_append_left _ (List.mem_of_getElem? (i := 20) (by decide +kernel))) rfl
theorem kx_F_measure : Cond.selects "NextPaths$Flow" y_F_measure y_F_measure ∈ TT := tm (List.mem_append_left _ (List.mem_of_getElem? (i := 21) (by decide +kernel))) rfl
theorem kx_F_tryEdge : Cond.selects "NextPaths$Flow" y_F_tryEdge y_F_tryEdge ∈ TT := tm (List.mem_append_left _ (List.mem_of_getElem? (i := 22) (by decide +kernel))) rfl
theorem kx_G_empty : Cond.selects "NextPaths$Graph" y_G_empty y_G_empty ∈ TT := tm (List.mem_append_left _ (List.mem_of_getElem? (i := 0) (by decide +kernel))) rfl
theorem kx_G_isNode : Cond.selects "NextPaths$Graph" y_G_isNode y_G_isNode ∈ TT := tm (List.mem_append_left _ (List.mem_of_getElem? (i := 5) (by decide +kernel))) rfl
theorem kx_G_areTwoNodes : Cond.selects "NextPaths$Graph" y_G_areTwoNodes y_G_areTwoNodes ∈ TT := tm (List.mem_append_left _ (List.mem_of_getElem? (i := 4) (by decide +kernel))) rfl
theorem kx_G_isArc : Cond.selects "NextPaths$Graph" y_G_isArc y_G_isArc ∈ TT := tm (List.mem_append_left _ (List.mem_of_getElem? (i := 7) (by decide +kernel))) rfl
theorem kx_G_addNode : Cond.selects "NextPaths$Graph" y_G_addNode y_G_addNode ∈ TT := tm (List.mem_append_left _ (List.mem_of_getElem? (i := 3) (by decide +kernel))) rfl
theorem kx_G_addArc : Cond.selects "NextPaths$Graph" y_G_addArc y_G_addArc ∈ TT := tm (List.mem_append_left _ (List.mem_of_getElem? (i := 6) (by decide +kernel))) rfl
theorem kx_G_shutArcs : Cond.selects "NextPaths$Graph" y_G_shutArcs y_G_shutArcs ∈ TT := tm (List.mem_append_left _ (List.mem_of_getElem? (i := 24) (by decide +kernel))) rfl
theorem kx_G_secondOf : Cond.selects "NextPaths$Graph" y_G_secondOf y_G_secondOf ∈ TT := tm (List.mem_append_left _ (List.mem_of_getElem? (i := 16) (by decide +kernel))) rfl
theorem kx_P_findAll : Cond.selects "NextPaths$PathFinder" y_P_findAll y_P_findAll ∈ TT := tm (List.mem_append_left _ (List.mem_of_getElem? (i := 8) (by decide +kernel))) rfl
theorem kx_P_code : Cond.selects "NextPaths$PathFinder" y_P_code y_P_code ∈ TT := tm (List.mem_append_left _ (List.mem_of_getElem? (i := 10) (by decide +kernel))) rfl
theorem kx_H_empty : Cond.selects "NextPaths$PathHeap" y_H_empty y_H_empty ∈ TT := tm (List.mem_append_left _ (List.mem_of_getElem? (i := 9) (by decide +kernel))) rfl
theorem kx_H_add : Cond.selects "NextPaths$PathHeap" y_H_add y_H_add ∈ TT := tm (List.mem_append_left _ (List.mem_of_getElem? (i := 11) (by decide +kernel))) rfl
theorem kx_H_takeFirst : Cond.selects "NextPaths$PathHeap" y_H_takeFirst y_H_takeFirst ∈ TT := tm (List.mem_append_left _ (List.mem_of_getElem? (i := 12) (by decide +kernel))) rfl
theorem kx_H_sinkFromTop : Cond.selects "NextPaths$PathHeap" y_H_sinkFromTop y_H_sinkFromTop ∈ TT := tm (List.mem_append_left _ (List.mem_of_getElem? (i := 13) (by decide +kernel))) rfl
theorem kx_H_lesserChild : Cond.selects "NextPaths$PathHeap" y_H_lesserChild y_H_lesserChild ∈ TT := tm (List.mem_append_left _ (List.mem_of_getElem? (i := 14) (by decide +kernel))) rfl
theorem kx_T_empty : Cond.selects "NextPaths$ToldPath" y_T_empty y_T_empty ∈ TT := tm (List.mem_append_left _ (List.mem_of_getElem? (i := 1) (by decide +kernel))) rfl
theorem kx_T_tell : Cond.selects "NextPaths$ToldPath" y_T_tell y_T_tell ∈ TT := tm (List.mem_append_left _ (List.mem_of_getElem? (i := 15) (by decide +kernel))) rfl
end
section
theorem d_N_init_0 : decode b_N_init 0 = .ok (.aload_n 0, 1) := by decide +kernel
theorem d_N_init_1 : decode b_N_init 1 = .ok (.invokespecial 3, 3) := by decide +kernel
theorem d_N_init_4 : decode b_N_init 4 = .ok (.aload_n 0, 1) := by decide +kernel
theorem d_N_init_5 : decode b_N_init 5 = .ok (.new 9, 3) := by decide +kernel
theorem d_N_init_8 : decode b_N_init 8 = .ok (.dup, 1) := by decide +kernel
theorem d_N_init_9 : decode b_N_init 9 = .ok (.invokespecial 11, 3) := by decide +kernel
theorem d_N_init_12 : decode b_N_init 12 = .ok (.putfield 12, 3) := by decide +kernel
theorem d_N_init_15 : decode b_N_init 15 = .ok (.aload_n 0, 1) := by decide +kernel
theorem d_N_init_16 : decode b_N_init 16 = .ok (.new 16, 3) := by decide +kernel
theorem d_N_init_19 : decode b_N_init 19 = .ok (.dup, 1) := by decide +kernel
theorem d_N_init_20 : decode b_N_init 20 = .ok (.invokespecial 18, 3) := by decide +kernel
theorem d_N_init_23 : decode b_N_init 23 = .ok (.putfield 19, 3) := by decide +kernel
theorem d_N_init_26 : decode b_N_init 26 = .ok (.aload_n 0, 1) := by decide +kernel
theorem d_N_init_27 : decode b_N_init 27 = .ok (.new 23, 3) := by decide +kernel
theorem d_N_init_30 : decode b_N_init 30 = .ok (.dup, 1) := by decide +kernel
theorem d_N_init_31 : decode b_N_init 31 = .ok (.aload_n 0, 1) := by decide +kernel
theorem d_N_init_32 : decode b_N_init 32 = .ok (.getfield 12, 3) := by decide +kernel
theorem d_N_init_35 : decode b_N_init 35 = .ok (.aload_n 0, 1) := by decide +kernel
theorem d_N_init_36 : decode b_N_init 36 = .ok (.getfield 19, 3) := by decide +kernel
theorem d_N_init_39 : decode b_N_init 39 = .ok (.invokespecial 25, 3) := by decide +kernel
theorem d_N_init_42 : decode b_N_init 42 = .ok (.putfield 28, 3) := by decide +kernel
theorem d_N_init_45 : decode b_N_init 45 = .ok (.aload_n 0, 1) := by decide +kernel
theorem d_N_init_46 : decode b_N_init 46 = .ok (.new 32, 3) := by decide +kernel
theorem d_N_init_49 : decode b_N_init 49 = .ok (.dup, 1) := by decide +kernel
theorem d_N_init_50 : decode b_N_init 50 = .ok (.aload_n 0, 1) := by decide +kernel
theorem d_N_init_51 : decode b_N_init 51 = .ok (.getfield 12, 3) := by decide +kernel
theorem d_N_init_54 : decode b_N_init 54 = .ok (.invokespecial 34, 3) := by decide +kernel
theorem d_N_init_57 : decode b_N_init 57 = .ok (.putfield 37, 3) := by decide +kernel
theorem d_N_init_60 : decode b_N_init 60 = .ok (.aload_n 0, 1) := by decide +kernel
theorem d_N_init_61 : decode b_N_init 61 = .ok (.new 41, 3) := by decide +kernel
theorem d_N_init_64 : decode b_N_init 64 = .ok (.dup, 1) := by decide +kernel
theorem d_N_init_65 : decode b_N_init 65 = .ok (.invokespecial 43, 3) := by decide +kernel
theorem d_N_init_68 : decode b_N_init 68 = .ok (.putfield 44, 3) := by decide +kernel
theorem d_N_init_71 : decode b_N_init 71 = .ok (.aload_n 0, 1) := by decide +kernel
theorem d_N_init_72 : decode b_N_init 72 = .ok (.new 48, 3) := by decide +kernel
theorem d_N_init_75 : decode b_N_init 75 = .ok (.dup, 1) := by decide +kernel
theorem d_N_init_76 : decode b_N_init 76 = .ok (.invokespecial 50, 3) := by decide +kernel
theorem d_N_init_79 : decode b_N_init 79 = .ok (.putfield 51, 3) := by decide +kernel
theorem d_N_init_82 : decode b_N_init 82 = .ok (.return_, 1) := by decide +kernel
theorem d_N_clear_0 : decode b_N_clear 0 = .ok (.aload_n 0, 1) := by decide +kernel
theorem d_N_clear_1 : decode b_N_clear 1 = .ok (.getfield 12, 3) := by decide +kernel
theorem d_N_clear_4 : decode b_N_clear 4 = .ok (.getfield 55, 3) := by decide +kernel
theorem d_N_clear_7 : decode b_N_clear 7 = .ok (.istore_n 1, 1) := by decide +kernel
theorem d_N_clear_8 : decode b_N_clear 8 = .ok (.aload_n 0, 1) := by decide +kernel
theorem d_N_clear_9 : decode b_N_clear 9 = .ok (.getfield 12, 3) := by decide +kernel
theorem d_N_clear_12 : decode b_N_clear 12 = .ok (.invokevirtual 59, 3) := by decide +kernel
theorem d_N_clear_15 : decode b_N_clear 15 = .ok (.aload_n 0, 1) := by decide +kernel
theorem d_N_clear_16 : decode b_N_clear 16 = .ok (.getfield 44, 3) := by decide +kernel
theorem d_N_clear_19 : decode b_N_clear 19 = .ok (.invokevirtual 62, 3) := by decide +kernel
theorem d_N_clear_22 : decode b_N_clear 22 = .ok (.aload_n 0, 1) := by decide +kernel
theorem d_N_clear_23 : decode b_N_clear 23 = .ok (.getfield 51, 3) := by decide +kernel
theorem d_N_clear_26 : decode b_N_clear 26 = .ok (.invokevirtual 63, 3) := by decide +kernel
theorem d_N_clear_29 : decode b_N_clear 29 = .ok (.iload_n 1, 1) := by decide +kernel
theorem d_N_clear_30 : decode b_N_clear 30 = .ok (.ireturn, 1) := by decide +kernel
theorem d_N_node_0 : decode b_N_node 0 = .ok (.aload_n 0, 1) := by decide +kernel
theorem d_N_node_1 : decode b_N_node 1 = .ok (.getfield 12, 3) := by decide +kernel
theorem d_N_node_4 : decode b_N_node 4 = .ok (.invokevirtual 64, 3) := by decide +kernel
theorem d_N_node_7 : decode b_N_node 7 = .ok (.ireturn, 1) := by decide +kernel
theorem d_N_arc_0 : decode b_N_arc 0 = .ok (.aload_n 0, 1) := by decide +kernel
theorem d_N_arc_1 : decode b_N_arc 1 = .ok (.getfield 12, 3) := by decide +kernel
theorem d_N_arc_4 : decode b_N_arc 4 = .ok (.iload_n 1, 1) := by decide +kernel
theorem d_N_arc_5 : decode b_N_arc 5 = .ok (.iload_n 2, 1) := by decide +kernel
theorem d_N_arc_6 : decode b_N_arc 6 = .ok (.invokevirtual 68, 3) := by decide +kernel
theorem d_N_arc_9 : decode b_N_arc 9 = .ok (.ifCond .eq 18, 3) := by decide +kernel
theorem d_N_arc_12 : decode b_N_arc 12 = .ok (.iload_n 3, 1) := by decide +kernel
theorem d_N_arc_13 : decode b_N_arc 13 = .ok (.invokestatic 72, 3) := by decide +kernel
theorem d_N_arc_16 : decode b_N_arc 16 = .ok (.ifCond .eq 11, 3) := by decide +kernel
theorem d_N_arc_19 : decode b_N_arc 19 = .ok (.iload 4, 2) := by decide +kernel
theorem d_N_arc_21 : decode b_N_arc 21 = .ok (.invokestatic 72, 3) := by decide +kernel
theorem d_N_arc_24 : decode b_N_arc 24 = .ok (.ifCond .ne 6, 3) := by decide +kernel
theorem d_N_arc_27 : decode b_N_arc 27 = .ok (.bipush (-2), 2) := by decide +kernel
theorem d_N_arc_29 : decode b_N_arc 29 = .ok (.ireturn, 1) := by decide +kernel
theorem d_N_arc_30 : decode b_N_arc 30 = .ok (.aload_n 0, 1) := by decide +kernel
theorem d_N_arc_31 : decode b_N_arc 31 = .ok (.getfield 12, 3) := by decide +kernel
theorem d_N_arc_34 : decode b_N_arc 34 = .ok (.iload_n 1, 1) := by decide +kernel
theorem d_N_arc_35 : decode b_N_arc 35 = .ok (.iload_n 2, 1) := by decide +kernel
theorem d_N_arc_36 : decode b_N_arc 36 = .ok (.iload_n 3, 1) := by decide +kernel
theorem d_N_arc_37 : decode b_N_arc 37 = .ok (.iload 4, 2) := by decide +kernel
theorem d_N_arc_39 : decode b_N_arc 39 = .ok (.invokevirtual 76, 3) := by decide +kernel
theorem d_N_arc_42 : decode b_N_arc 42 = .ok (.ireturn, 1) := by decide +kernel
theorem d_N_change_0 : decode b_N_change 0 = .ok (.aload_n 0, 1) := by decide +kernel
theorem d_N_change_1 : decode b_N_change 1 = .ok (.getfield 12, 3) := by decide +kernel
theorem d_N_change_4 : decode b_N_change 4 = .ok (.iload_n 1, 1) := by decide +kernel
theorem d_N_change_5 : decode b_N_change 5 = .ok (.invokevirtual 80, 3) := by decide +kernel
theorem d_N_change_8 : decode b_N_change 8 = .ok (.ifCond .eq 17, 3) := by decide +kernel
theorem d_N_change_11 : decode b_N_change 11 = .ok (.iload_n 2, 1) := by decide +kernel
theorem d_N_change_12 : decode b_N_change 12 = .ok (.invokestatic 72, 3) := by decide +kernel
theorem d_N_change_15 : decode b_N_change 15 = .ok (.ifCond .eq 10, 3) := by decide +kernel
theorem d_N_change_18 : decode b_N_change 18 = .ok (.iload_n 3, 1) := by decide +kernel
theorem d_N_change_19 : decode b_N_change 19 = .ok (.invokestatic 72, 3) := by decide +kernel
theorem d_N_change_22 : decode b_N_change 22 = .ok (.ifCond .ne 6, 3) := by decide +kernel
theorem d_N_change_25 : decode b_N_change 25 = .ok (.bipush (-2), 2) := by decide +kernel
theorem d_N_change_27 : decode b_N_change 27 = .ok (.ireturn, 1) := by decide +kernel
theorem d_N_change_28 : decode b_N_change 28 = .ok (.aload_n 0, 1) := by decide +kernel
theorem d_N_change_29 : decode b_N_change 29 = .ok (.getfield 12, 3) := by decide +kernel
theorem d_N_change_32 : decode b_N_change 32 = .ok (.getfield 83, 3) := by decide +kernel
theorem d_N_change_35 : decode b_N_change 35 = .ok (.iload_n 1, 1) := by decide +kernel
theorem d_N_change_36 : decode b_N_change 36 = .ok (.iaload, 1) := by decide +kernel
theorem d_N_change_37 : decode b_N_change 37 = .ok (.istore 4, 2) := by decide +kernel
theorem d_N_change_39 : decode b_N_change 39 = .ok (.aload_n 0, 1) := by decide +kernel
theorem d_N_change_40 : decode b_N_change 40 = .ok (.getfield 12, 3) := by decide +kernel
theorem d_N_change_43 : decode b_N_change 43 = .ok (.getfield 83, 3) := by decide +kernel
theorem d_N_change_46 : decode b_N_change 46 = .ok (.iload_n 1, 1) := by decide +kernel
theorem d_N_change_47 : decode b_N_change 47 = .ok (.iload_n 2, 1) := by decide +kernel
theorem d_N_change_48 : decode b_N_change 48 = .ok (.iastore, 1) := by decide +kernel
theorem d_N_change_49 : decode b_N_change 49 = .ok (.aload_n 0, 1) := by decide +kernel
theorem d_N_change_50 : decode b_N_change 50 = .ok (.getfield 12, 3) := by decide +kernel
theorem d_N_change_53 : decode b_N_change 53 = .ok (.getfield 87, 3) := by decide +kernel
theorem d_N_change_56 : decode b_N_change 56 = .ok (.iload_n 1, 1) := by decide +kernel
theorem d_N_change_57 : decode b_N_change 57 = .ok (.iload_n 3, 1) := by decide +kernel
theorem d_N_change_58 : decode b_N_change 58 = .ok (.iastore, 1) := by decide +kernel
theorem d_N_change_59 : decode b_N_change 59 = .ok (.iload 4, 2) := by decide +kernel
theorem d_N_change_61 : decode b_N_change 61 = .ok (.ireturn, 1) := by decide +kernel
theorem d_N_shut_0 : decode b_N_shut 0 = .ok (.aload_n 0, 1) := by decide +kernel
theorem d_N_shut_1 : decode b_N_shut 1 = .ok (.getfield 12, 3) := by decide +kernel
theorem d_N_shut_4 : decode b_N_shut 4 = .ok (.iload_n 1, 1) := by decide +kernel
theorem d_N_shut_5 : decode b_N_shut 5 = .ok (.invokevirtual 80, 3) := by decide +kernel
theorem d_N_shut_8 : decode b_N_shut 8 = .ok (.ifCond .ne 6, 3) := by decide +kernel
theorem d_N_shut_11 : decode b_N_shut 11 = .ok (.bipush (-2), 2) := by decide +kernel
theorem d_N_shut_13 : decode b_N_shut 13 = .ok (.ireturn, 1) := by decide +kernel
theorem d_N_shut_14 : decode b_N_shut 14 = .ok (.aload_n 0, 1) := by decide +kernel
theorem d_N_shut_15 : decode b_N_shut 15 = .ok (.getfield 12, 3) := by decide +kernel
theorem d_N_shut_18 : decode b_N_shut 18 = .ok (.getfield 90, 3) := by decide +kernel
theorem d_N_shut_21 : decode b_N_shut 21 = .ok (.iload_n 1, 1) := by decide +kernel
theorem d_N_shut_22 : decode b_N_shut 22 = .ok (.baload, 1) := by decide +kernel
theorem d_N_shut_23 : decode b_N_shut 23 = .ok (.istore_n 3, 1) := by decide +kernel
theorem d_N_shut_24 : decode b_N_shut 24 = .ok (.aload_n 0, 1) := by decide +kernel
theorem d_N_shut_25 : decode b_N_shut 25 = .ok (.getfield 12, 3) := by decide +kernel
theorem d_N_shut_28 : decode b_N_shut 28 = .ok (.getfield 90, 3) := by decide +kernel
theorem d_N_shut_31 : decode b_N_shut 31 = .ok (.iload_n 1, 1) := by decide +kernel
theorem d_N_shut_32 : decode b_N_shut 32 = .ok (.iload_n 2, 1) := by decide +kernel
theorem d_N_shut_33 : decode b_N_shut 33 = .ok (.bastore, 1) := by decide +kernel
theorem d_N_shut_34 : decode b_N_shut 34 = .ok (.iload_n 3, 1) := by decide +kernel
theorem d_N_shut_35 : decode b_N_shut 35 = .ok (.ifCond .eq 7, 3) := by decide +kernel
theorem d_N_shut_38 : decode b_N_shut 38 = .ok (.iconst 1, 1) := by decide +kernel
theorem d_N_shut_39 : decode b_N_shut 39 = .ok (.goto 4, 3) := by decide +kernel
theorem d_N_shut_42 : decode b_N_shut 42 = .ok (.iconst 0, 1) := by decide +kernel
theorem d_N_shut_43 : decode b_N_shut 43 = .ok (.ireturn, 1) := by decide +kernel
theorem d_N_next_0 : decode b_N_next 0 = .ok (.aload_n 0, 1) := by decide +kernel
theorem d_N_next_1 : decode b_N_next 1 = .ok (.getfield 12, 3) := by decide +kernel
theorem d_N_next_4 : decode b_N_next 4 = .ok (.iload_n 1, 1) := by decide +kernel
theorem d_N_next_5 : decode b_N_next 5 = .ok (.iload_n 2, 1) := by decide +kernel
theorem d_N_next_6 : decode b_N_next 6 = .ok (.invokevirtual 68, 3) := by decide +kernel
theorem d_N_next_9 : decode b_N_next 9 = .ok (.ifCond .eq 14, 3) := by decide +kernel
theorem d_N_next_12 : decode b_N_next 12 = .ok (.iload_n 3, 1) := by decide +kernel
theorem d_N_next_13 : decode b_N_next 13 = .ok (.iconst 0, 1) := by decide +kernel
theorem d_N_next_14 : decode b_N_next 14 = .ok (.sipush 299, 3) := by decide +kernel
theorem d_N_next_17 : decode b_N_next 17 = .ok (.invokestatic 94, 3) := by decide +kernel
theorem d_N_next_20 : decode b_N_next 20 = .ok (.ifCond .ne 6, 3) := by decide +kernel
theorem d_N_next_23 : decode b_N_next 23 = .ok (.bipush (-2), 2) := by decide +kernel
theorem d_N_next_25 : decode b_N_next 25 = .ok (.ireturn, 1) := by decide +kernel
theorem d_N_next_26 : decode b_N_next 26 = .ok (.aload_n 0, 1) := by decide +kernel
theorem d_N_next_27 : decode b_N_next 27 = .ok (.getfield 28, 3) := by decide +kernel
theorem d_N_next_30 : decode b_N_next 30 = .ok (.iload_n 1, 1) := by decide +kernel
theorem d_N_next_31 : decode b_N_next 31 = .ok (.iload_n 2, 1) := by decide +kernel
theorem d_N_next_32 : decode b_N_next 32 = .ok (.invokevirtual 98, 3) := by decide +kernel
theorem d_N_next_35 : decode b_N_next 35 = .ok (.iload_n 3, 1) := by decide +kernel
theorem d_N_next_36 : decode b_N_next 36 = .ok (.aload_n 0, 1) := by decide +kernel
theorem d_N_next_37 : decode b_N_next 37 = .ok (.getfield 19, 3) := by decide +kernel
theorem d_N_next_40 : decode b_N_next 40 = .ok (.getfield 102, 3) := by decide +kernel
theorem d_N_next_43 : decode b_N_next 43 = .ok (.if_icmp .lt 5, 3) := by decide +kernel
theorem d_N_next_46 : decode b_N_next 46 = .ok (.iconst (-1), 1) := by decide +kernel
theorem d_N_next_47 : decode b_N_next 47 = .ok (.ireturn, 1) := by decide +kernel
theorem d_N_next_48 : decode b_N_next 48 = .ok (.iconst 0, 1) := by decide +kernel
theorem d_N_next_49 : decode b_N_next 49 = .ok (.istore 4, 2) := by decide +kernel
theorem d_N_next_51 : decode b_N_next 51 = .ok (.iload 4, 2) := by decide +kernel
theorem d_N_next_53 : decode b_N_next 53 = .ok (.iload_n 3, 1) := by decide +kernel
theorem d_N_next_54 : decode b_N_next 54 = .ok (.if_icmp .ge 17, 3) := by decide +kernel
theorem d_N_next_57 : decode b_N_next 57 = .ok (.aload_n 0, 1) := by decide +kernel
theorem d_N_next_58 : decode b_N_next 58 = .ok (.getfield 19, 3) := by decide +kernel
theorem d_N_next_61 : decode b_N_next 61 = .ok (.invokevirtual 105, 3) := by decide +kernel
theorem d_N_next_64 : decode b_N_next 64 = .ok (.pop2, 1) := by decide +kernel
theorem d_N_next_65 : decode b_N_next 65 = .ok (.iinc 4 1, 3) := by decide +kernel
theorem d_N_next_68 : decode b_N_next 68 = .ok (.goto (-17), 3) := by decide +kernel
theorem d_N_next_71 : decode b_N_next 71 = .ok (.aload_n 0, 1) := by decide +kernel
theorem d_N_next_72 : decode b_N_next 72 = .ok (.getfield 44, 3) := by decide +kernel
theorem d_N_next_75 : decode b_N_next 75 = .ok (.aload_n 0, 1) := by decide +kernel
theorem d_N_next_76 : decode b_N_next 76 = .ok (.getfield 12, 3) := by decide +kernel
theorem d_N_next_79 : decode b_N_next 79 = .ok (.aload_n 0, 1) := by decide +kernel
theorem d_N_next_80 : decode b_N_next 80 = .ok (.getfield 19, 3) := by decide +kernel
theorem d_N_next_83 : decode b_N_next 83 = .ok (.invokevirtual 105, 3) := by decide +kernel
theorem d_N_next_86 : decode b_N_next 86 = .ok (.invokevirtual 109, 3) := by decide +kernel
theorem d_N_next_89 : decode b_N_next 89 = .ok (.ireturn, 1) := by decide +kernel
theorem d_N_count_0 : decode b_N_count 0 = .ok (.aload_n 0, 1) := by decide +kernel
theorem d_N_count_1 : decode b_N_count 1 = .ok (.getfield 12, 3) := by decide +kernel
theorem d_N_count_4 : decode b_N_count 4 = .ok (.iload_n 1, 1) := by decide +kernel
theorem d_N_count_5 : decode b_N_count 5 = .ok (.iload_n 2, 1) := by decide +kernel
theorem d_N_count_6 : decode b_N_count 6 = .ok (.invokevirtual 68, 3) := by decide +kernel
theorem d_N_count_9 : decode b_N_count 9 = .ok (.ifCond .ne 6, 3) := by decide +kernel
theorem d_N_count_12 : decode b_N_count 12 = .ok (.bipush (-2), 2) := by decide +kernel
theorem d_N_count_14 : decode b_N_count 14 = .ok (.ireturn, 1) := by decide +kernel
theorem d_N_count_15 : decode b_N_count 15 = .ok (.aload_n 0, 1) := by decide +kernel
theorem d_N_count_16 : decode b_N_count 16 = .ok (.getfield 28, 3) := by decide +kernel
theorem d_N_count_19 : decode b_N_count 19 = .ok (.iload_n 1, 1) := by decide +kernel
theorem d_N_count_20 : decode b_N_count 20 = .ok (.iload_n 2, 1) := by decide +kernel
theorem d_N_count_21 : decode b_N_count 21 = .ok (.invokevirtual 98, 3) := by decide +kernel
theorem d_N_count_24 : decode b_N_count 24 = .ok (.aload_n 0, 1) := by decide +kernel
theorem d_N_count_25 : decode b_N_count 25 = .ok (.getfield 19, 3) := by decide +kernel
theorem d_N_count_28 : decode b_N_count 28 = .ok (.getfield 102, 3) := by decide +kernel
theorem d_N_count_31 : decode b_N_count 31 = .ok (.ireturn, 1) := by decide +kernel
theorem d_N_apart_0 : decode b_N_apart 0 = .ok (.aload_n 0, 1) := by decide +kernel
theorem d_N_apart_1 : decode b_N_apart 1 = .ok (.getfield 12, 3) := by decide +kernel
theorem d_N_apart_4 : decode b_N_apart 4 = .ok (.iload_n 1, 1) := by decide +kernel
theorem d_N_apart_5 : decode b_N_apart 5 = .ok (.iload_n 2, 1) := by decide +kernel
theorem d_N_apart_6 : decode b_N_apart 6 = .ok (.invokevirtual 68, 3) := by decide +kernel
theorem d_N_apart_9 : decode b_N_apart 9 = .ok (.ifCond .eq 22, 3) := by decide +kernel
theorem d_N_apart_12 : decode b_N_apart 12 = .ok (.iload_n 3, 1) := by decide +kernel
theorem d_N_apart_13 : decode b_N_apart 13 = .ok (.iconst 1, 1) := by decide +kernel
theorem d_N_apart_14 : decode b_N_apart 14 = .ok (.iconst 5, 1) := by decide +kernel
theorem d_N_apart_15 : decode b_N_apart 15 = .ok (.invokestatic 94, 3) := by decide +kernel
theorem d_N_apart_18 : decode b_N_apart 18 = .ok (.ifCond .eq 13, 3) := by decide +kernel
theorem d_N_apart_21 : decode b_N_apart 21 = .ok (.iload 4, 2) := by decide +kernel
theorem d_N_apart_23 : decode b_N_apart 23 = .ok (.iconst 0, 1) := by decide +kernel
theorem d_N_apart_24 : decode b_N_apart 24 = .ok (.iconst 1, 1) := by decide +kernel
theorem d_N_apart_25 : decode b_N_apart 25 = .ok (.invokestatic 94, 3) := by decide +kernel
theorem d_N_apart_28 : decode b_N_apart 28 = .ok (.ifCond .ne 6, 3) := by decide +kernel
theorem d_N_apart_31 : decode b_N_apart 31 = .ok (.bipush (-2), 2) := by decide +kernel
theorem d_N_apart_33 : decode b_N_apart 33 = .ok (.ireturn, 1) := by decide +kernel
theorem d_N_apart_34 : decode b_N_apart 34 = .ok (.aload_n 0, 1) := by decide +kernel
theorem d_N_apart_35 : decode b_N_apart 35 = .ok (.getfield 37, 3) := by decide +kernel
theorem d_N_apart_38 : decode b_N_apart 38 = .ok (.iload_n 1, 1) := by decide +kernel
theorem d_N_apart_39 : decode b_N_apart 39 = .ok (.iload_n 2, 1) := by decide +kernel
theorem d_N_apart_40 : decode b_N_apart 40 = .ok (.iload 4, 2) := by decide +kernel
theorem d_N_apart_42 : decode b_N_apart 42 = .ok (.iconst 1, 1) := by decide +kernel
theorem d_N_apart_43 : decode b_N_apart 43 = .ok (.if_icmp .ne 7, 3) := by decide +kernel
theorem d_N_apart_46 : decode b_N_apart 46 = .ok (.iconst 1, 1) := by decide +kernel
theorem d_N_apart_47 : decode b_N_apart 47 = .ok (.goto 4, 3) := by decide +kernel
theorem d_N_apart_50 : decode b_N_apart 50 = .ok (.iconst 0, 1) := by decide +kernel
theorem d_N_apart_51 : decode b_N_apart 51 = .ok (.invokevirtual 113, 3) := by decide +kernel
theorem d_N_apart_54 : decode b_N_apart 54 = .ok (.iconst 0, 1) := by decide +kernel
theorem d_N_apart_55 : decode b_N_apart 55 = .ok (.istore 5, 2) := by decide +kernel
theorem d_N_apart_57 : decode b_N_apart 57 = .ok (.iconst 0, 1) := by decide +kernel
theorem d_N_apart_58 : decode b_N_apart 58 = .ok (.istore 6, 2) := by decide +kernel
theorem d_N_apart_60 : decode b_N_apart 60 = .ok (.iload 6, 2) := by decide +kernel
theorem d_N_apart_62 : decode b_N_apart 62 = .ok (.iload_n 3, 1) := by decide +kernel
theorem d_N_apart_63 : decode b_N_apart 63 = .ok (.if_icmp .ge 33, 3) := by decide +kernel
theorem d_N_apart_66 : decode b_N_apart 66 = .ok (.aload_n 0, 1) := by decide +kernel
theorem d_N_apart_67 : decode b_N_apart 67 = .ok (.getfield 37, 3) := by decide +kernel
theorem d_N_apart_70 : decode b_N_apart 70 = .ok (.invokevirtual 117, 3) := by decide +kernel
theorem d_N_apart_73 : decode b_N_apart 73 = .ok (.istore 7, 2) := by decide +kernel
theorem d_N_apart_75 : decode b_N_apart 75 = .ok (.iload 7, 2) := by decide +kernel
theorem d_N_apart_77 : decode b_N_apart 77 = .ok (.iconst (-1), 1) := by decide +kernel
theorem d_N_apart_78 : decode b_N_apart 78 = .ok (.if_icmp .ne 5, 3) := by decide +kernel
theorem d_N_apart_81 : decode b_N_apart 81 = .ok (.iconst (-1), 1) := by decide +kernel
theorem d_N_apart_82 : decode b_N_apart 82 = .ok (.ireturn, 1) := by decide +kernel
theorem d_N_apart_83 : decode b_N_apart 83 = .ok (.iload 5, 2) := by decide +kernel
theorem d_N_apart_85 : decode b_N_apart 85 = .ok (.iload 7, 2) := by decide +kernel
theorem d_N_apart_87 : decode b_N_apart 87 = .ok (.iadd, 1) := by decide +kernel
theorem d_N_apart_88 : decode b_N_apart 88 = .ok (.istore 5, 2) := by decide +kernel
theorem d_N_apart_90 : decode b_N_apart 90 = .ok (.iinc 6 1, 3) := by decide +kernel
theorem d_N_apart_93 : decode b_N_apart 93 = .ok (.goto (-33), 3) := by decide +kernel
theorem d_N_apart_96 : decode b_N_apart 96 = .ok (.iload 5, 2) := by decide +kernel
theorem d_N_apart_98 : decode b_N_apart 98 = .ok (.ireturn, 1) := by decide +kernel
theorem d_N_most_0 : decode b_N_most 0 = .ok (.aload_n 0, 1) := by decide +kernel
theorem d_N_most_1 : decode b_N_most 1 = .ok (.getfield 12, 3) := by decide +kernel
theorem d_N_most_4 : decode b_N_most 4 = .ok (.iload_n 1, 1) := by decide +kernel
theorem d_N_most_5 : decode b_N_most 5 = .ok (.iload_n 2, 1) := by decide +kernel
theorem d_N_most_6 : decode b_N_most 6 = .ok (.invokevirtual 68, 3) := by decide +kernel
theorem d_N_most_9 : decode b_N_most 9 = .ok (.ifCond .eq 12, 3) := by decide +kernel
theorem d_N_most_12 : decode b_N_most 12 = .ok (.iload_n 3, 1) := by decide +kernel
theorem d_N_most_13 : decode b_N_most 13 = .ok (.iconst 0, 1) := by decide +kernel
theorem d_N_most_14 : decode b_N_most 14 = .ok (.iconst 1, 1) := by decide +kernel
theorem d_N_most_15 : decode b_N_most 15 = .ok (.invokestatic 94, 3) := by decide +kernel
theorem d_N_most_18 : decode b_N_most 18 = .ok (.ifCond .ne 6, 3) := by decide +kernel
theorem d_N_most_21 : decode b_N_most 21 = .ok (.bipush (-2), 2) := by decide +kernel
theorem d_N_most_23 : decode b_N_most 23 = .ok (.ireturn, 1) := by decide +kernel
theorem d_N_most_24 : decode b_N_most 24 = .ok (.aload_n 0, 1) := by decide +kernel
theorem d_N_most_25 : decode b_N_most 25 = .ok (.getfield 37, 3) := by decide +kernel
theorem d_N_most_28 : decode b_N_most 28 = .ok (.iload_n 1, 1) := by decide +kernel
theorem d_N_most_29 : decode b_N_most 29 = .ok (.iload_n 2, 1) := by decide +kernel
theorem d_N_most_30 : decode b_N_most 30 = .ok (.iload_n 3, 1) := by decide +kernel
theorem d_N_most_31 : decode b_N_most 31 = .ok (.iconst 1, 1) := by decide +kernel
theorem d_N_most_32 : decode b_N_most 32 = .ok (.if_icmp .ne 7, 3) := by decide +kernel
theorem d_N_most_35 : decode b_N_most 35 = .ok (.iconst 1, 1) := by decide +kernel
theorem d_N_most_36 : decode b_N_most 36 = .ok (.goto 4, 3) := by decide +kernel
theorem d_N_most_39 : decode b_N_most 39 = .ok (.iconst 0, 1) := by decide +kernel
theorem d_N_most_40 : decode b_N_most 40 = .ok (.invokevirtual 113, 3) := by decide +kernel
theorem d_N_most_43 : decode b_N_most 43 = .ok (.iconst 0, 1) := by decide +kernel
theorem d_N_most_44 : decode b_N_most 44 = .ok (.istore 4, 2) := by decide +kernel
theorem d_N_most_46 : decode b_N_most 46 = .ok (.iload 4, 2) := by decide +kernel
theorem d_N_most_48 : decode b_N_most 48 = .ok (.bipush 20, 2) := by decide +kernel
theorem d_N_most_50 : decode b_N_most 50 = .ok (.if_icmp .ge 20, 3) := by decide +kernel
theorem d_N_most_53 : decode b_N_most 53 = .ok (.aload_n 0, 1) := by decide +kernel
theorem d_N_most_54 : decode b_N_most 54 = .ok (.getfield 37, 3) := by decide +kernel
theorem d_N_most_57 : decode b_N_most 57 = .ok (.invokevirtual 117, 3) := by decide +kernel
theorem d_N_most_60 : decode b_N_most 60 = .ok (.iconst (-1), 1) := by decide +kernel
theorem d_N_most_61 : decode b_N_most 61 = .ok (.if_icmp .eq 9, 3) := by decide +kernel
theorem d_N_most_64 : decode b_N_most 64 = .ok (.iinc 4 1, 3) := by decide +kernel
theorem d_N_most_67 : decode b_N_most 67 = .ok (.goto (-21), 3) := by decide +kernel
theorem d_N_most_70 : decode b_N_most 70 = .ok (.iload 4, 2) := by decide +kernel
theorem d_N_most_72 : decode b_N_most 72 = .ok (.ireturn, 1) := by decide +kernel
theorem d_N_within_0 : decode b_N_within 0 = .ok (.aload_n 0, 1) := by decide +kernel
theorem d_N_within_1 : decode b_N_within 1 = .ok (.getfield 12, 3) := by decide +kernel
theorem d_N_within_4 : decode b_N_within 4 = .ok (.iload_n 1, 1) := by decide +kernel
theorem d_N_within_5 : decode b_N_within 5 = .ok (.iload_n 2, 1) := by decide +kernel
theorem d_N_within_6 : decode b_N_within 6 = .ok (.invokevirtual 68, 3) := by decide +kernel
theorem d_N_within_9 : decode b_N_within 9 = .ok (.ifCond .eq 14, 3) := by decide +kernel
theorem d_N_within_12 : decode b_N_within 12 = .ok (.iload_n 3, 1) := by decide +kernel
theorem d_N_within_13 : decode b_N_within 13 = .ok (.iconst 0, 1) := by decide +kernel
theorem d_N_within_14 : decode b_N_within 14 = .ok (.sipush 7000, 3) := by decide +kernel
theorem d_N_within_17 : decode b_N_within 17 = .ok (.invokestatic 94, 3) := by decide +kernel
theorem d_N_within_20 : decode b_N_within 20 = .ok (.ifCond .ne 6, 3) := by decide +kernel
theorem d_N_within_23 : decode b_N_within 23 = .ok (.bipush (-2), 2) := by decide +kernel
theorem d_N_within_25 : decode b_N_within 25 = .ok (.ireturn, 1) := by decide +kernel
theorem d_N_within_26 : decode b_N_within 26 = .ok (.aload_n 0, 1) := by decide +kernel
theorem d_N_within_27 : decode b_N_within 27 = .ok (.getfield 28, 3) := by decide +kernel
theorem d_N_within_30 : decode b_N_within 30 = .ok (.iload_n 1, 1) := by decide +kernel
theorem d_N_within_31 : decode b_N_within 31 = .ok (.iload_n 2, 1) := by decide +kernel
theorem d_N_within_32 : decode b_N_within 32 = .ok (.invokevirtual 98, 3) := by decide +kernel
theorem d_N_within_35 : decode b_N_within 35 = .ok (.aload_n 0, 1) := by decide +kernel
theorem d_N_within_36 : decode b_N_within 36 = .ok (.getfield 19, 3) := by decide +kernel
theorem d_N_within_39 : decode b_N_within 39 = .ok (.getfield 102, 3) := by decide +kernel
theorem d_N_within_42 : decode b_N_within 42 = .ok (.istore 4, 2) := by decide +kernel
theorem d_N_within_44 : decode b_N_within 44 = .ok (.iload 4, 2) := by decide +kernel
theorem d_N_within_46 : decode b_N_within 46 = .ok (.ifCond .le 45, 3) := by decide +kernel
theorem d_N_within_49 : decode b_N_within 49 = .ok (.aload_n 0, 1) := by decide +kernel
theorem d_N_within_50 : decode b_N_within 50 = .ok (.getfield 19, 3) := by decide +kernel
theorem d_N_within_53 : decode b_N_within 53 = .ok (.invokevirtual 105, 3) := by decide +kernel
theorem d_N_within_56 : decode b_N_within 56 = .ok (.lstore 5, 2) := by decide +kernel
theorem d_N_within_58 : decode b_N_within 58 = .ok (.aload_n 0, 1) := by decide +kernel
theorem d_N_within_59 : decode b_N_within 59 = .ok (.getfield 12, 3) := by decide +kernel
theorem d_N_within_62 : decode b_N_within 62 = .ok (.lload 5, 2) := by decide +kernel
theorem d_N_within_64 : decode b_N_within 64 = .ok (.invokevirtual 120, 3) := by decide +kernel
theorem d_N_within_67 : decode b_N_within 67 = .ok (.iload_n 3, 1) := by decide +kernel
theorem d_N_within_68 : decode b_N_within 68 = .ok (.if_icmp .gt 17, 3) := by decide +kernel
theorem d_N_within_71 : decode b_N_within 71 = .ok (.aload_n 0, 1) := by decide +kernel
theorem d_N_within_72 : decode b_N_within 72 = .ok (.getfield 44, 3) := by decide +kernel
theorem d_N_within_75 : decode b_N_within 75 = .ok (.aload_n 0, 1) := by decide +kernel
theorem d_N_within_76 : decode b_N_within 76 = .ok (.getfield 12, 3) := by decide +kernel
theorem d_N_within_79 : decode b_N_within 79 = .ok (.lload 5, 2) := by decide +kernel
theorem d_N_within_81 : decode b_N_within 81 = .ok (.invokevirtual 109, 3) := by decide +kernel
theorem d_N_within_84 : decode b_N_within 84 = .ok (.ireturn, 1) := by decide +kernel
theorem d_N_within_85 : decode b_N_within 85 = .ok (.iinc 4 (-1), 3) := by decide +kernel
theorem d_N_within_88 : decode b_N_within 88 = .ok (.goto (-44), 3) := by decide +kernel
theorem d_N_within_91 : decode b_N_within 91 = .ok (.iconst (-1), 1) := by decide +kernel
theorem d_N_within_92 : decode b_N_within 92 = .ok (.ireturn, 1) := by decide +kernel
theorem d_N_pairs_0 : decode b_N_pairs 0 = .ok (.aload_n 0, 1) := by decide +kernel
theorem d_N_pairs_1 : decode b_N_pairs 1 = .ok (.getfield 12, 3) := by decide +kernel
theorem d_N_pairs_4 : decode b_N_pairs 4 = .ok (.iload_n 1, 1) := by decide +kernel
theorem d_N_pairs_5 : decode b_N_pairs 5 = .ok (.iload_n 2, 1) := by decide +kernel
theorem d_N_pairs_6 : decode b_N_pairs 6 = .ok (.invokevirtual 68, 3) := by decide +kernel
theorem d_N_pairs_9 : decode b_N_pairs 9 = .ok (.ifCond .ne 6, 3) := by decide +kernel
theorem d_N_pairs_12 : decode b_N_pairs 12 = .ok (.bipush (-2), 2) := by decide +kernel
theorem d_N_pairs_14 : decode b_N_pairs 14 = .ok (.ireturn, 1) := by decide +kernel
theorem d_N_pairs_15 : decode b_N_pairs 15 = .ok (.aload_n 0, 1) := by decide +kernel
theorem d_N_pairs_16 : decode b_N_pairs 16 = .ok (.getfield 28, 3) := by decide +kernel
theorem d_N_pairs_19 : decode b_N_pairs 19 = .ok (.iload_n 1, 1) := by decide +kernel
theorem d_N_pairs_20 : decode b_N_pairs 20 = .ok (.iload_n 2, 1) := by decide +kernel
theorem d_N_pairs_21 : decode b_N_pairs 21 = .ok (.invokevirtual 98, 3) := by decide +kernel
theorem d_N_pairs_24 : decode b_N_pairs 24 = .ok (.aload_n 0, 1) := by decide +kernel
theorem d_N_pairs_25 : decode b_N_pairs 25 = .ok (.getfield 51, 3) := by decide +kernel
theorem d_N_pairs_28 : decode b_N_pairs 28 = .ok (.invokevirtual 63, 3) := by decide +kernel
theorem d_N_pairs_31 : decode b_N_pairs 31 = .ok (.aload_n 0, 1) := by decide +kernel
theorem d_N_pairs_32 : decode b_N_pairs 32 = .ok (.getfield 19, 3) := by decide +kernel
theorem d_N_pairs_35 : decode b_N_pairs 35 = .ok (.getfield 102, 3) := by decide +kernel
theorem d_N_pairs_38 : decode b_N_pairs 38 = .ok (.istore_n 3, 1) := by decide +kernel
theorem d_N_pairs_39 : decode b_N_pairs 39 = .ok (.iload_n 3, 1) := by decide +kernel
theorem d_N_pairs_40 : decode b_N_pairs 40 = .ok (.ifCond .le 39, 3) := by decide +kernel
theorem d_N_pairs_43 : decode b_N_pairs 43 = .ok (.aload_n 0, 1) := by decide +kernel
theorem d_N_pairs_44 : decode b_N_pairs 44 = .ok (.getfield 19, 3) := by decide +kernel
theorem d_N_pairs_47 : decode b_N_pairs 47 = .ok (.invokevirtual 105, 3) := by decide +kernel
theorem d_N_pairs_50 : decode b_N_pairs 50 = .ok (.lstore 4, 2) := by decide +kernel
theorem d_N_pairs_52 : decode b_N_pairs 52 = .ok (.aload_n 0, 1) := by decide +kernel
theorem d_N_pairs_53 : decode b_N_pairs 53 = .ok (.getfield 51, 3) := by decide +kernel
theorem d_N_pairs_56 : decode b_N_pairs 56 = .ok (.lload 4, 2) := by decide +kernel
theorem d_N_pairs_58 : decode b_N_pairs 58 = .ok (.invokestatic 124, 3) := by decide +kernel
theorem d_N_pairs_61 : decode b_N_pairs 61 = .ok (.aload_n 0, 1) := by decide +kernel
theorem d_N_pairs_62 : decode b_N_pairs 62 = .ok (.getfield 12, 3) := by decide +kernel
theorem d_N_pairs_65 : decode b_N_pairs 65 = .ok (.lload 4, 2) := by decide +kernel
theorem d_N_pairs_67 : decode b_N_pairs 67 = .ok (.invokevirtual 120, 3) := by decide +kernel
theorem d_N_pairs_70 : decode b_N_pairs 70 = .ok (.invokevirtual 129, 3) := by decide +kernel
theorem d_N_pairs_73 : decode b_N_pairs 73 = .ok (.iinc 3 (-1), 3) := by decide +kernel
theorem d_N_pairs_76 : decode b_N_pairs 76 = .ok (.goto (-37), 3) := by decide +kernel
theorem d_N_pairs_79 : decode b_N_pairs 79 = .ok (.aload_n 0, 1) := by decide +kernel
theorem d_N_pairs_80 : decode b_N_pairs 80 = .ok (.getfield 51, 3) := by decide +kernel
theorem d_N_pairs_83 : decode b_N_pairs 83 = .ok (.getfield 132, 3) := by decide +kernel
theorem d_N_pairs_86 : decode b_N_pairs 86 = .ok (.ireturn, 1) := by decide +kernel
theorem d_N_pair_0 : decode b_N_pair 0 = .ok (.iload_n 1, 1) := by decide +kernel
theorem d_N_pair_1 : decode b_N_pair 1 = .ok (.iconst 0, 1) := by decide +kernel
theorem d_N_pair_2 : decode b_N_pair 2 = .ok (.aload_n 0, 1) := by decide +kernel
theorem d_N_pair_3 : decode b_N_pair 3 = .ok (.getfield 51, 3) := by decide +kernel
theorem d_N_pair_6 : decode b_N_pair 6 = .ok (.getfield 132, 3) := by decide +kernel
theorem d_N_pair_9 : decode b_N_pair 9 = .ok (.iconst 1, 1) := by decide +kernel
theorem d_N_pair_10 : decode b_N_pair 10 = .ok (.isub, 1) := by decide +kernel
theorem d_N_pair_11 : decode b_N_pair 11 = .ok (.invokestatic 94, 3) := by decide +kernel
theorem d_N_pair_14 : decode b_N_pair 14 = .ok (.ifCond .ne 6, 3) := by decide +kernel
theorem d_N_pair_17 : decode b_N_pair 17 = .ok (.bipush (-2), 2) := by decide +kernel
theorem d_N_pair_19 : decode b_N_pair 19 = .ok (.ireturn, 1) := by decide +kernel
theorem d_N_pair_20 : decode b_N_pair 20 = .ok (.iload_n 2, 1) := by decide +kernel
theorem d_N_pair_21 : decode b_N_pair 21 = .ok (.lookupswitch 47 #[(0, 27), (1, 37)], 27) := by decide +kernel
theorem d_N_pair_48 : decode b_N_pair 48 = .ok (.aload_n 0, 1) := by decide +kernel
theorem d_N_pair_49 : decode b_N_pair 49 = .ok (.getfield 51, 3) := by decide +kernel
theorem d_N_pair_52 : decode b_N_pair 52 = .ok (.getfield 133, 3) := by decide +kernel
theorem d_N_pair_55 : decode b_N_pair 55 = .ok (.iload_n 1, 1) := by decide +kernel
theorem d_N_pair_56 : decode b_N_pair 56 = .ok (.iaload, 1) := by decide +kernel
theorem d_N_pair_57 : decode b_N_pair 57 = .ok (.ireturn, 1) := by decide +kernel
theorem d_N_pair_58 : decode b_N_pair 58 = .ok (.aload_n 0, 1) := by decide +kernel
theorem d_N_pair_59 : decode b_N_pair 59 = .ok (.getfield 51, 3) := by decide +kernel
theorem d_N_pair_62 : decode b_N_pair 62 = .ok (.getfield 136, 3) := by decide +kernel
theorem d_N_pair_65 : decode b_N_pair 65 = .ok (.iload_n 1, 1) := by decide +kernel
theorem d_N_pair_66 : decode b_N_pair 66 = .ok (.iaload, 1) := by decide +kernel
theorem d_N_pair_67 : decode b_N_pair 67 = .ok (.ireturn, 1) := by decide +kernel
theorem d_N_pair_68 : decode b_N_pair 68 = .ok (.bipush (-2), 2) := by decide +kernel
theorem d_N_pair_70 : decode b_N_pair 70 = .ok (.ireturn, 1) := by decide +kernel
theorem d_N_step_0 : decode b_N_step 0 = .ok (.iload_n 1, 1) := by decide +kernel
theorem d_N_step_1 : decode b_N_step 1 = .ok (.iconst 0, 1) := by decide +kernel
theorem d_N_step_2 : decode b_N_step 2 = .ok (.aload_n 0, 1) := by decide +kernel
theorem d_N_step_3 : decode b_N_step 3 = .ok (.getfield 44, 3) := by decide +kernel
theorem d_N_step_6 : decode b_N_step 6 = .ok (.getfield 139, 3) := by decide +kernel
theorem d_N_step_9 : decode b_N_step 9 = .ok (.iconst 1, 1) := by decide +kernel
theorem d_N_step_10 : decode b_N_step 10 = .ok (.isub, 1) := by decide +kernel
theorem d_N_step_11 : decode b_N_step 11 = .ok (.invokestatic 94, 3) := by decide +kernel
theorem d_N_step_14 : decode b_N_step 14 = .ok (.ifCond .eq 15, 3) := by decide +kernel
theorem d_N_step_17 : decode b_N_step 17 = .ok (.aload_n 0, 1) := by decide +kernel
theorem d_N_step_18 : decode b_N_step 18 = .ok (.getfield 44, 3) := by decide +kernel
theorem d_N_step_21 : decode b_N_step 21 = .ok (.getfield 142, 3) := by decide +kernel
theorem d_N_step_24 : decode b_N_step 24 = .ok (.iload_n 1, 1) := by decide +kernel
theorem d_N_step_25 : decode b_N_step 25 = .ok (.iaload, 1) := by decide +kernel
theorem d_N_step_26 : decode b_N_step 26 = .ok (.goto 5, 3) := by decide +kernel
theorem d_N_step_29 : decode b_N_step 29 = .ok (.bipush (-2), 2) := by decide +kernel
theorem d_N_step_31 : decode b_N_step 31 = .ok (.ireturn, 1) := by decide +kernel
theorem d_N_sum_0 : decode b_N_sum 0 = .ok (.iload_n 1, 1) := by decide +kernel
theorem d_N_sum_1 : decode b_N_sum 1 = .ok (.iconst 0, 1) := by decide +kernel
theorem d_N_sum_2 : decode b_N_sum 2 = .ok (.iconst 2, 1) := by decide +kernel
theorem d_N_sum_3 : decode b_N_sum 3 = .ok (.invokestatic 94, 3) := by decide +kernel
theorem d_N_sum_6 : decode b_N_sum 6 = .ok (.ifCond .ne 6, 3) := by decide +kernel
theorem d_N_sum_9 : decode b_N_sum 9 = .ok (.bipush (-2), 2) := by decide +kernel
theorem d_N_sum_11 : decode b_N_sum 11 = .ok (.ireturn, 1) := by decide +kernel
theorem d_N_sum_12 : decode b_N_sum 12 = .ok (.aload_n 0, 1) := by decide +kernel
theorem d_N_sum_13 : decode b_N_sum 13 = .ok (.getfield 44, 3) := by decide +kernel
theorem d_N_sum_16 : decode b_N_sum 16 = .ok (.getfield 139, 3) := by decide +kernel
theorem d_N_sum_19 : decode b_N_sum 19 = .ok (.ifCond .ne 5, 3) := by decide +kernel
theorem d_N_sum_22 : decode b_N_sum 22 = .ok (.iconst (-1), 1) := by decide +kernel
theorem d_N_sum_23 : decode b_N_sum 23 = .ok (.ireturn, 1) := by decide +kernel
theorem d_N_sum_24 : decode b_N_sum 24 = .ok (.iload_n 1, 1) := by decide +kernel
theorem d_N_sum_25 : decode b_N_sum 25 = .ok (.lookupswitch 43 #[(0, 27), (1, 35)], 27) := by decide +kernel
theorem d_N_sum_52 : decode b_N_sum 52 = .ok (.aload_n 0, 1) := by decide +kernel
theorem d_N_sum_53 : decode b_N_sum 53 = .ok (.getfield 44, 3) := by decide +kernel
theorem d_N_sum_56 : decode b_N_sum 56 = .ok (.getfield 145, 3) := by decide +kernel
theorem d_N_sum_59 : decode b_N_sum 59 = .ok (.ireturn, 1) := by decide +kernel
theorem d_N_sum_60 : decode b_N_sum 60 = .ok (.aload_n 0, 1) := by decide +kernel
theorem d_N_sum_61 : decode b_N_sum 61 = .ok (.getfield 44, 3) := by decide +kernel
theorem d_N_sum_64 : decode b_N_sum 64 = .ok (.getfield 147, 3) := by decide +kernel
theorem d_N_sum_67 : decode b_N_sum 67 = .ok (.ireturn, 1) := by decide +kernel
theorem d_N_sum_68 : decode b_N_sum 68 = .ok (.aload_n 0, 1) := by decide +kernel
theorem d_N_sum_69 : decode b_N_sum 69 = .ok (.getfield 44, 3) := by decide +kernel
theorem d_N_sum_72 : decode b_N_sum 72 = .ok (.getfield 139, 3) := by decide +kernel
theorem d_N_sum_75 : decode b_N_sum 75 = .ok (.ireturn, 1) := by decide +kernel
theorem d_N_told_0 : decode b_N_told 0 = .ok (.aload_n 0, 1) := by decide +kernel
theorem d_N_told_1 : decode b_N_told 1 = .ok (.getfield 12, 3) := by decide +kernel
theorem d_N_told_4 : decode b_N_told 4 = .ok (.iload_n 1, 1) := by decide +kernel
theorem d_N_told_5 : decode b_N_told 5 = .ok (.invokevirtual 80, 3) := by decide +kernel
theorem d_N_told_8 : decode b_N_told 8 = .ok (.ifCond .ne 6, 3) := by decide +kernel
theorem d_N_told_11 : decode b_N_told 11 = .ok (.bipush (-2), 2) := by decide +kernel
theorem d_N_told_13 : decode b_N_told 13 = .ok (.ireturn, 1) := by decide +kernel
theorem d_N_told_14 : decode b_N_told 14 = .ok (.iload_n 2, 1) := by decide +kernel
theorem d_N_told_15 : decode b_N_told 15 = .ok (.tableswitch 91 0 4 #[33, 43, 53, 63, 73], 33) := by decide +kernel
theorem d_N_told_48 : decode b_N_told 48 = .ok (.aload_n 0, 1) := by decide +kernel
theorem d_N_told_49 : decode b_N_told 49 = .ok (.getfield 12, 3) := by decide +kernel
theorem d_N_told_52 : decode b_N_told 52 = .ok (.getfield 149, 3) := by decide +kernel
theorem d_N_told_55 : decode b_N_told 55 = .ok (.iload_n 1, 1) := by decide +kernel
theorem d_N_told_56 : decode b_N_told 56 = .ok (.iaload, 1) := by decide +kernel
theorem d_N_told_57 : decode b_N_told 57 = .ok (.ireturn, 1) := by decide +kernel
theorem d_N_told_58 : decode b_N_told 58 = .ok (.aload_n 0, 1) := by decide +kernel
theorem d_N_told_59 : decode b_N_told 59 = .ok (.getfield 12, 3) := by decide +kernel
theorem d_N_told_62 : decode b_N_told 62 = .ok (.getfield 152, 3) := by decide +kernel
theorem d_N_told_65 : decode b_N_told 65 = .ok (.iload_n 1, 1) := by decide +kernel
theorem d_N_told_66 : decode b_N_told 66 = .ok (.iaload, 1) := by decide +kernel
theorem d_N_told_67 : decode b_N_told 67 = .ok (.ireturn, 1) := by decide +kernel
theorem d_N_told_68 : decode b_N_told 68 = .ok (.aload_n 0, 1) := by decide +kernel
theorem d_N_told_69 : decode b_N_told 69 = .ok (.getfield 12, 3) := by decide +kernel
theorem d_N_told_72 : decode b_N_told 72 = .ok (.getfield 83, 3) := by decide +kernel
theorem d_N_told_75 : decode b_N_told 75 = .ok (.iload_n 1, 1) := by decide +kernel
theorem d_N_told_76 : decode b_N_told 76 = .ok (.iaload, 1) := by decide +kernel
theorem d_N_told_77 : decode b_N_told 77 = .ok (.ireturn, 1) := by decide +kernel
theorem d_N_told_78 : decode b_N_told 78 = .ok (.aload_n 0, 1) := by decide +kernel
theorem d_N_told_79 : decode b_N_told 79 = .ok (.getfield 12, 3) := by decide +kernel
theorem d_N_told_82 : decode b_N_told 82 = .ok (.getfield 87, 3) := by decide +kernel
theorem d_N_told_85 : decode b_N_told 85 = .ok (.iload_n 1, 1) := by decide +kernel
theorem d_N_told_86 : decode b_N_told 86 = .ok (.iaload, 1) := by decide +kernel
theorem d_N_told_87 : decode b_N_told 87 = .ok (.ireturn, 1) := by decide +kernel
theorem d_N_told_88 : decode b_N_told 88 = .ok (.aload_n 0, 1) := by decide +kernel
theorem d_N_told_89 : decode b_N_told 89 = .ok (.getfield 12, 3) := by decide +kernel
theorem d_N_told_92 : decode b_N_told 92 = .ok (.getfield 90, 3) := by decide +kernel
theorem d_N_told_95 : decode b_N_told 95 = .ok (.iload_n 1, 1) := by decide +kernel
theorem d_N_told_96 : decode b_N_told 96 = .ok (.baload, 1) := by decide +kernel
theorem d_N_told_97 : decode b_N_told 97 = .ok (.ifCond .eq 7, 3) := by decide +kernel
theorem d_N_told_100 : decode b_N_told 100 = .ok (.iconst 1, 1) := by decide +kernel
theorem d_N_told_101 : decode b_N_told 101 = .ok (.goto 4, 3) := by decide +kernel
theorem d_N_told_104 : decode b_N_told 104 = .ok (.iconst 0, 1) := by decide +kernel
theorem d_N_told_105 : decode b_N_told 105 = .ok (.ireturn, 1) := by decide +kernel
theorem d_N_told_106 : decode b_N_told 106 = .ok (.bipush (-2), 2) := by decide +kernel
theorem d_N_told_108 : decode b_N_told 108 = .ok (.ireturn, 1) := by decide +kernel
theorem d_N_of_0 : decode b_N_of 0 = .ok (.iload_n 1, 1) := by decide +kernel
theorem d_N_of_1 : decode b_N_of 1 = .ok (.tableswitch 51 0 2 #[27, 35, 43], 27) := by decide +kernel
theorem d_N_of_28 : decode b_N_of 28 = .ok (.aload_n 0, 1) := by decide +kernel
theorem d_N_of_29 : decode b_N_of 29 = .ok (.getfield 12, 3) := by decide +kernel
theorem d_N_of_32 : decode b_N_of 32 = .ok (.getfield 155, 3) := by decide +kernel
theorem d_N_of_35 : decode b_N_of 35 = .ok (.ireturn, 1) := by decide +kernel
theorem d_N_of_36 : decode b_N_of 36 = .ok (.aload_n 0, 1) := by decide +kernel
theorem d_N_of_37 : decode b_N_of 37 = .ok (.getfield 12, 3) := by decide +kernel
theorem d_N_of_40 : decode b_N_of 40 = .ok (.getfield 55, 3) := by decide +kernel
theorem d_N_of_43 : decode b_N_of 43 = .ok (.ireturn, 1) := by decide +kernel
theorem d_N_of_44 : decode b_N_of 44 = .ok (.aload_n 0, 1) := by decide +kernel
theorem d_N_of_45 : decode b_N_of 45 = .ok (.getfield 12, 3) := by decide +kernel
theorem d_N_of_48 : decode b_N_of 48 = .ok (.invokevirtual 158, 3) := by decide +kernel
theorem d_N_of_51 : decode b_N_of 51 = .ok (.ireturn, 1) := by decide +kernel
theorem d_N_of_52 : decode b_N_of 52 = .ok (.bipush (-2), 2) := by decide +kernel
theorem d_N_of_54 : decode b_N_of 54 = .ok (.ireturn, 1) := by decide +kernel
theorem d_N_liesIn_0 : decode b_N_liesIn 0 = .ok (.iload_n 1, 1) := by decide +kernel
theorem d_N_liesIn_1 : decode b_N_liesIn 1 = .ok (.iload_n 0, 1) := by decide +kernel
theorem d_N_liesIn_2 : decode b_N_liesIn 2 = .ok (.if_icmp .gt 12, 3) := by decide +kernel
theorem d_N_liesIn_5 : decode b_N_liesIn 5 = .ok (.iload_n 0, 1) := by decide +kernel
theorem d_N_liesIn_6 : decode b_N_liesIn 6 = .ok (.iload_n 2, 1) := by decide +kernel
theorem d_N_liesIn_7 : decode b_N_liesIn 7 = .ok (.if_icmp .gt 7, 3) := by decide +kernel
theorem d_N_liesIn_10 : decode b_N_liesIn 10 = .ok (.iconst 1, 1) := by decide +kernel
theorem d_N_liesIn_11 : decode b_N_liesIn 11 = .ok (.goto 4, 3) := by decide +kernel
theorem d_N_liesIn_14 : decode b_N_liesIn 14 = .ok (.iconst 0, 1) := by decide +kernel
theorem d_N_liesIn_15 : decode b_N_liesIn 15 = .ok (.ireturn, 1) := by decide +kernel
theorem d_N_isWeight_0 : decode b_N_isWeight 0 = .ok (.iload_n 0, 1) := by decide +kernel
theorem d_N_isWeight_1 : decode b_N_isWeight 1 = .ok (.iconst 0, 1) := by decide +kernel
theorem d_N_isWeight_2 : decode b_N_isWeight 2 = .ok (.sipush 1000, 3) := by decide +kernel
theorem d_N_isWeight_5 : decode b_N_isWeight 5 = .ok (.invokestatic 94, 3) := by decide +kernel
theorem d_N_isWeight_8 : decode b_N_isWeight 8 = .ok (.ireturn, 1) := by decide +kernel
theorem d_B_init_0 : decode b_B_init 0 = .ok (.aload_n 0, 1) := by decide +kernel
theorem d_B_init_1 : decode b_B_init 1 = .ok (.invokespecial 3, 3) := by decide +kernel
theorem d_B_init_4 : decode b_B_init 4 = .ok (.aload_n 0, 1) := by decide +kernel
theorem d_B_init_5 : decode b_B_init 5 = .ok (.sipush 1458, 3) := by decide +kernel
theorem d_B_init_8 : decode b_B_init 8 = .ok (.newarray .int, 2) := by decide +kernel
theorem d_B_init_10 : decode b_B_init 10 = .ok (.putfield 9, 3) := by decide +kernel
theorem d_B_init_13 : decode b_B_init 13 = .ok (.aload_n 0, 1) := by decide +kernel
theorem d_B_init_14 : decode b_B_init 14 = .ok (.sipush 1458, 3) := by decide +kernel
theorem d_B_init_17 : decode b_B_init 17 = .ok (.newarray .int, 2) := by decide +kernel
theorem d_B_init_19 : decode b_B_init 19 = .ok (.putfield 15, 3) := by decide +kernel
theorem d_B_init_22 : decode b_B_init 22 = .ok (.return_, 1) := by decide +kernel
theorem d_B_empty_0 : decode b_B_empty 0 = .ok (.aload_n 0, 1) := by decide +kernel
theorem d_B_empty_1 : decode b_B_empty 1 = .ok (.iconst 0, 1) := by decide +kernel
theorem d_B_empty_2 : decode b_B_empty 2 = .ok (.putfield 18, 3) := by decide +kernel
theorem d_B_empty_5 : decode b_B_empty 5 = .ok (.return_, 1) := by decide +kernel
theorem d_B_offer_0 : decode b_B_offer 0 = .ok (.aload_n 0, 1) := by decide +kernel
theorem d_B_offer_1 : decode b_B_offer 1 = .ok (.getfield 18, 3) := by decide +kernel
theorem d_B_offer_4 : decode b_B_offer 4 = .ok (.ifCond .le 19, 3) := by decide +kernel
theorem d_B_offer_7 : decode b_B_offer 7 = .ok (.aload_n 0, 1) := by decide +kernel
theorem d_B_offer_8 : decode b_B_offer 8 = .ok (.getfield 15, 3) := by decide +kernel
theorem d_B_offer_11 : decode b_B_offer 11 = .ok (.aload_n 0, 1) := by decide +kernel
theorem d_B_offer_12 : decode b_B_offer 12 = .ok (.getfield 18, 3) := by decide +kernel
theorem d_B_offer_15 : decode b_B_offer 15 = .ok (.iconst 1, 1) := by decide +kernel
theorem d_B_offer_16 : decode b_B_offer 16 = .ok (.isub, 1) := by decide +kernel
theorem d_B_offer_17 : decode b_B_offer 17 = .ok (.iaload, 1) := by decide +kernel
theorem d_B_offer_18 : decode b_B_offer 18 = .ok (.iload_n 2, 1) := by decide +kernel
theorem d_B_offer_19 : decode b_B_offer 19 = .ok (.if_icmp .gt 4, 3) := by decide +kernel
theorem d_B_offer_22 : decode b_B_offer 22 = .ok (.return_, 1) := by decide +kernel
theorem d_B_offer_23 : decode b_B_offer 23 = .ok (.aload_n 0, 1) := by decide +kernel
theorem d_B_offer_24 : decode b_B_offer 24 = .ok (.getfield 18, 3) := by decide +kernel
theorem d_B_offer_27 : decode b_B_offer 27 = .ok (.ifCond .le 28, 3) := by decide +kernel
theorem d_B_offer_30 : decode b_B_offer 30 = .ok (.aload_n 0, 1) := by decide +kernel
theorem d_B_offer_31 : decode b_B_offer 31 = .ok (.getfield 9, 3) := by decide +kernel
theorem d_B_offer_34 : decode b_B_offer 34 = .ok (.aload_n 0, 1) := by decide +kernel
theorem d_B_offer_35 : decode b_B_offer 35 = .ok (.getfield 18, 3) := by decide +kernel
theorem d_B_offer_38 : decode b_B_offer 38 = .ok (.iconst 1, 1) := by decide +kernel
theorem d_B_offer_39 : decode b_B_offer 39 = .ok (.isub, 1) := by decide +kernel
theorem d_B_offer_40 : decode b_B_offer 40 = .ok (.iaload, 1) := by decide +kernel
theorem d_B_offer_41 : decode b_B_offer 41 = .ok (.iload_n 1, 1) := by decide +kernel
theorem d_B_offer_42 : decode b_B_offer 42 = .ok (.if_icmp .ne 13, 3) := by decide +kernel
theorem d_B_offer_45 : decode b_B_offer 45 = .ok (.aload_n 0, 1) := by decide +kernel
theorem d_B_offer_46 : decode b_B_offer 46 = .ok (.dup, 1) := by decide +kernel
theorem d_B_offer_47 : decode b_B_offer 47 = .ok (.getfield 18, 3) := by decide +kernel
theorem d_B_offer_50 : decode b_B_offer 50 = .ok (.iconst 1, 1) := by decide +kernel
theorem d_B_offer_51 : decode b_B_offer 51 = .ok (.isub, 1) := by decide +kernel
theorem d_B_offer_52 : decode b_B_offer 52 = .ok (.putfield 18, 3) := by decide +kernel
theorem d_B_offer_55 : decode b_B_offer 55 = .ok (.aload_n 0, 1) := by decide +kernel
theorem d_B_offer_56 : decode b_B_offer 56 = .ok (.getfield 18, 3) := by decide +kernel
theorem d_B_offer_59 : decode b_B_offer 59 = .ok (.sipush 1458, 3) := by decide +kernel
theorem d_B_offer_62 : decode b_B_offer 62 = .ok (.if_icmp .ge 33, 3) := by decide +kernel
theorem d_B_offer_65 : decode b_B_offer 65 = .ok (.aload_n 0, 1) := by decide +kernel
theorem d_B_offer_66 : decode b_B_offer 66 = .ok (.getfield 9, 3) := by decide +kernel
theorem d_B_offer_69 : decode b_B_offer 69 = .ok (.aload_n 0, 1) := by decide +kernel
theorem d_B_offer_70 : decode b_B_offer 70 = .ok (.getfield 18, 3) := by decide +kernel
theorem d_B_offer_73 : decode b_B_offer 73 = .ok (.iload_n 1, 1) := by decide +kernel
theorem d_B_offer_74 : decode b_B_offer 74 = .ok (.iastore, 1) := by decide +kernel
theorem d_B_offer_75 : decode b_B_offer 75 = .ok (.aload_n 0, 1) := by decide +kernel
theorem d_B_offer_76 : decode b_B_offer 76 = .ok (.getfield 15, 3) := by decide +kernel
theorem d_B_offer_79 : decode b_B_offer 79 = .ok (.aload_n 0, 1) := by decide +kernel
theorem d_B_offer_80 : decode b_B_offer 80 = .ok (.getfield 18, 3) := by decide +kernel
theorem d_B_offer_83 : decode b_B_offer 83 = .ok (.iload_n 2, 1) := by decide +kernel
theorem d_B_offer_84 : decode b_B_offer 84 = .ok (.iastore, 1) := by decide +kernel
theorem d_B_offer_85 : decode b_B_offer 85 = .ok (.aload_n 0, 1) := by decide +kernel
theorem d_B_offer_86 : decode b_B_offer 86 = .ok (.dup, 1) := by decide +kernel
theorem d_B_offer_87 : decode b_B_offer 87 = .ok (.getfield 18, 3) := by decide +kernel
theorem d_B_offer_90 : decode b_B_offer 90 = .ok (.iconst 1, 1) := by decide +kernel
theorem d_B_offer_91 : decode b_B_offer 91 = .ok (.iadd, 1) := by decide +kernel
theorem d_B_offer_92 : decode b_B_offer 92 = .ok (.putfield 18, 3) := by decide +kernel
theorem d_B_offer_95 : decode b_B_offer 95 = .ok (.return_, 1) := by decide +kernel
theorem d_F_init_0 : decode b_F_init 0 = .ok (.aload_n 0, 1) := by decide +kernel
theorem d_F_init_1 : decode b_F_init 1 = .ok (.invokespecial 3, 3) := by decide +kernel
theorem d_F_init_4 : decode b_F_init 4 = .ok (.aload_n 0, 1) := by decide +kernel
theorem d_F_init_5 : decode b_F_init 5 = .ok (.bipush 56, 2) := by decide +kernel
theorem d_F_init_7 : decode b_F_init 7 = .ok (.newarray .int, 2) := by decide +kernel
theorem d_F_init_9 : decode b_F_init 9 = .ok (.putfield 11, 3) := by decide +kernel
theorem d_F_init_12 : decode b_F_init 12 = .ok (.aload_n 0, 1) := by decide +kernel
theorem d_F_init_13 : decode b_F_init 13 = .ok (.bipush 56, 2) := by decide +kernel
theorem d_F_init_15 : decode b_F_init 15 = .ok (.newarray .int, 2) := by decide +kernel
theorem d_F_init_17 : decode b_F_init 17 = .ok (.putfield 15, 3) := by decide +kernel
theorem d_F_init_20 : decode b_F_init 20 = .ok (.aload_n 0, 1) := by decide +kernel
theorem d_F_init_21 : decode b_F_init 21 = .ok (.bipush 56, 2) := by decide +kernel
theorem d_F_init_23 : decode b_F_init 23 = .ok (.newarray .int, 2) := by decide +kernel
theorem d_F_init_25 : decode b_F_init 25 = .ok (.putfield 18, 3) := by decide +kernel
theorem d_F_init_28 : decode b_F_init 28 = .ok (.aload_n 0, 1) := by decide +kernel
theorem d_F_init_29 : decode b_F_init 29 = .ok (.bipush 56, 2) := by decide +kernel
theorem d_F_init_31 : decode b_F_init 31 = .ok (.newarray .int, 2) := by decide +kernel
theorem d_F_init_33 : decode b_F_init 33 = .ok (.putfield 21, 3) := by decide +kernel
theorem d_F_init_36 : decode b_F_init 36 = .ok (.aload_n 0, 1) := by decide +kernel
theorem d_F_init_37 : decode b_F_init 37 = .ok (.bipush 16, 2) := by decide +kernel
theorem d_F_init_39 : decode b_F_init 39 = .ok (.newarray .int, 2) := by decide +kernel
theorem d_F_init_41 : decode b_F_init 41 = .ok (.putfield 24, 3) := by decide +kernel
theorem d_F_init_44 : decode b_F_init 44 = .ok (.aload_n 0, 1) := by decide +kernel
theorem d_F_init_45 : decode b_F_init 45 = .ok (.bipush 16, 2) := by decide +kernel
theorem d_F_init_47 : decode b_F_init 47 = .ok (.newarray .int, 2) := by decide +kernel
theorem d_F_init_49 : decode b_F_init 49 = .ok (.putfield 27, 3) := by decide +kernel
theorem d_F_init_52 : decode b_F_init 52 = .ok (.aload_n 0, 1) := by decide +kernel
theorem d_F_init_53 : decode b_F_init 53 = .ok (.aload_n 1, 1) := by decide +kernel
theorem d_F_init_54 : decode b_F_init 54 = .ok (.putfield 30, 3) := by decide +kernel
theorem d_F_init_57 : decode b_F_init 57 = .ok (.return_, 1) := by decide +kernel
theorem d_F_entry_0 : decode b_F_entry 0 = .ok (.iconst 2, 1) := by decide +kernel
theorem d_F_entry_1 : decode b_F_entry 1 = .ok (.iload_n 0, 1) := by decide +kernel
theorem d_F_entry_2 : decode b_F_entry 2 = .ok (.imul, 1) := by decide +kernel
theorem d_F_entry_3 : decode b_F_entry 3 = .ok (.ireturn, 1) := by decide +kernel
theorem d_F_exit_0 : decode b_F_exit 0 = .ok (.iconst 2, 1) := by decide +kernel
theorem d_F_exit_1 : decode b_F_exit 1 = .ok (.iload_n 0, 1) := by decide +kernel
theorem d_F_exit_2 : decode b_F_exit 2 = .ok (.imul, 1) := by decide +kernel
theorem d_F_exit_3 : decode b_F_exit 3 = .ok (.iconst 1, 1) := by decide +kernel
theorem d_F_exit_4 : decode b_F_exit 4 = .ok (.iadd, 1) := by decide +kernel
theorem d_F_exit_5 : decode b_F_exit 5 = .ok (.ireturn, 1) := by decide +kernel
theorem d_F_prepare_0 : decode b_F_prepare 0 = .ok (.aload_n 0, 1) := by decide +kernel
theorem d_F_prepare_1 : decode b_F_prepare 1 = .ok (.iconst 0, 1) := by decide +kernel
theorem d_F_prepare_2 : decode b_F_prepare 2 = .ok (.putfield 34, 3) := by decide +kernel
theorem d_F_prepare_5 : decode b_F_prepare 5 = .ok (.aload_n 0, 1) := by decide +kernel
theorem d_F_prepare_6 : decode b_F_prepare 6 = .ok (.iload_n 1, 1) := by decide +kernel
theorem d_F_prepare_7 : decode b_F_prepare 7 = .ok (.invokestatic 38, 3) := by decide +kernel
theorem d_F_prepare_10 : decode b_F_prepare 10 = .ok (.putfield 42, 3) := by decide +kernel
theorem d_F_prepare_13 : decode b_F_prepare 13 = .ok (.aload_n 0, 1) := by decide +kernel
theorem d_F_prepare_14 : decode b_F_prepare 14 = .ok (.iload_n 2, 1) := by decide +kernel
theorem d_F_prepare_15 : decode b_F_prepare 15 = .ok (.invokestatic 45, 3) := by decide +kernel
theorem d_F_prepare_18 : decode b_F_prepare 18 = .ok (.putfield 48, 3) := by decide +kernel
theorem d_F_prepare_21 : decode b_F_prepare 21 = .ok (.iconst 0, 1) := by decide +kernel
theorem d_F_prepare_22 : decode b_F_prepare 22 = .ok (.istore 4, 2) := by decide +kernel
theorem d_F_prepare_24 : decode b_F_prepare 24 = .ok (.iload 4, 2) := by decide +kernel
theorem d_F_prepare_26 : decode b_F_prepare 26 = .ok (.aload_n 0, 1) := by decide +kernel
theorem d_F_prepare_27 : decode b_F_prepare 27 = .ok (.getfield 30, 3) := by decide +kernel
theorem d_F_prepare_30 : decode b_F_prepare 30 = .ok (.getfield 51, 3) := by decide +kernel
theorem d_F_prepare_33 : decode b_F_prepare 33 = .ok (.if_icmp .ge 63, 3) := by decide +kernel
theorem d_F_prepare_36 : decode b_F_prepare 36 = .ok (.aload_n 0, 1) := by decide +kernel
theorem d_F_prepare_37 : decode b_F_prepare 37 = .ok (.getfield 30, 3) := by decide +kernel
theorem d_F_prepare_40 : decode b_F_prepare 40 = .ok (.getfield 56, 3) := by decide +kernel
theorem d_F_prepare_43 : decode b_F_prepare 43 = .ok (.iload 4, 2) := by decide +kernel
theorem d_F_prepare_45 : decode b_F_prepare 45 = .ok (.baload, 1) := by decide +kernel
theorem d_F_prepare_46 : decode b_F_prepare 46 = .ok (.ifCond .ne 44, 3) := by decide +kernel
theorem d_F_prepare_49 : decode b_F_prepare 49 = .ok (.aload_n 0, 1) := by decide +kernel
theorem d_F_prepare_50 : decode b_F_prepare 50 = .ok (.aload_n 0, 1) := by decide +kernel
theorem d_F_prepare_51 : decode b_F_prepare 51 = .ok (.getfield 30, 3) := by decide +kernel
theorem d_F_prepare_54 : decode b_F_prepare 54 = .ok (.getfield 60, 3) := by decide +kernel
theorem d_F_prepare_57 : decode b_F_prepare 57 = .ok (.iload 4, 2) := by decide +kernel
theorem d_F_prepare_59 : decode b_F_prepare 59 = .ok (.iaload, 1) := by decide +kernel
theorem d_F_prepare_60 : decode b_F_prepare 60 = .ok (.invokestatic 38, 3) := by decide +kernel
theorem d_F_prepare_63 : decode b_F_prepare 63 = .ok (.aload_n 0, 1) := by decide +kernel
theorem d_F_prepare_64 : decode b_F_prepare 64 = .ok (.getfield 30, 3) := by decide +kernel
theorem d_F_prepare_67 : decode b_F_prepare 67 = .ok (.getfield 63, 3) := by decide +kernel
theorem d_F_prepare_70 : decode b_F_prepare 70 = .ok (.iload 4, 2) := by decide +kernel
theorem d_F_prepare_72 : decode b_F_prepare 72 = .ok (.iaload, 1) := by decide +kernel
theorem d_F_prepare_73 : decode b_F_prepare 73 = .ok (.invokestatic 45, 3) := by decide +kernel
theorem d_F_prepare_76 : decode b_F_prepare 76 = .ok (.aload_n 0, 1) := by decide +kernel
theorem d_F_prepare_77 : decode b_F_prepare 77 = .ok (.getfield 30, 3) := by decide +kernel
theorem d_F_prepare_80 : decode b_F_prepare 80 = .ok (.getfield 66, 3) := by decide +kernel
theorem d_F_prepare_83 : decode b_F_prepare 83 = .ok (.iload 4, 2) := by decide +kernel
theorem d_F_prepare_85 : decode b_F_prepare 85 = .ok (.iaload, 1) := by decide +kernel
theorem d_F_prepare_86 : decode b_F_prepare 86 = .ok (.iconst 1, 1) := by decide +kernel
theorem d_F_prepare_87 : decode b_F_prepare 87 = .ok (.invokevirtual 69, 3) := by decide +kernel
theorem d_F_prepare_90 : decode b_F_prepare 90 = .ok (.iinc 4 1, 3) := by decide +kernel
theorem d_F_prepare_93 : decode b_F_prepare 93 = .ok (.goto (-69), 3) := by decide +kernel
theorem d_F_prepare_96 : decode b_F_prepare 96 = .ok (.iconst 0, 1) := by decide +kernel
theorem d_F_prepare_97 : decode b_F_prepare 97 = .ok (.istore 4, 2) := by decide +kernel
theorem d_F_prepare_99 : decode b_F_prepare 99 = .ok (.iload 4, 2) := by decide +kernel
theorem d_F_prepare_101 : decode b_F_prepare 101 = .ok (.aload_n 0, 1) := by decide +kernel
theorem d_F_prepare_102 : decode b_F_prepare 102 = .ok (.getfield 30, 3) := by decide +kernel
theorem d_F_prepare_105 : decode b_F_prepare 105 = .ok (.getfield 73, 3) := by decide +kernel
theorem d_F_prepare_108 : decode b_F_prepare 108 = .ok (.if_icmp .ge 46, 3) := by decide +kernel
theorem d_F_prepare_111 : decode b_F_prepare 111 = .ok (.iload 4, 2) := by decide +kernel
theorem d_F_prepare_113 : decode b_F_prepare 113 = .ok (.iload_n 1, 1) := by decide +kernel
theorem d_F_prepare_114 : decode b_F_prepare 114 = .ok (.if_icmp .eq 34, 3) := by decide +kernel
theorem d_F_prepare_117 : decode b_F_prepare 117 = .ok (.iload 4, 2) := by decide +kernel
theorem d_F_prepare_119 : decode b_F_prepare 119 = .ok (.iload_n 2, 1) := by decide +kernel
theorem d_F_prepare_120 : decode b_F_prepare 120 = .ok (.if_icmp .eq 28, 3) := by decide +kernel
theorem d_F_prepare_123 : decode b_F_prepare 123 = .ok (.aload_n 0, 1) := by decide +kernel
theorem d_F_prepare_124 : decode b_F_prepare 124 = .ok (.iload 4, 2) := by decide +kernel
theorem d_F_prepare_126 : decode b_F_prepare 126 = .ok (.invokestatic 45, 3) := by decide +kernel
theorem d_F_prepare_129 : decode b_F_prepare 129 = .ok (.iload 4, 2) := by decide +kernel
theorem d_F_prepare_131 : decode b_F_prepare 131 = .ok (.invokestatic 38, 3) := by decide +kernel
theorem d_F_prepare_134 : decode b_F_prepare 134 = .ok (.iconst 0, 1) := by decide +kernel
theorem d_F_prepare_135 : decode b_F_prepare 135 = .ok (.iload_n 3, 1) := by decide +kernel
theorem d_F_prepare_136 : decode b_F_prepare 136 = .ok (.ifCond .eq 7, 3) := by decide +kernel
theorem d_F_prepare_139 : decode b_F_prepare 139 = .ok (.iconst 1, 1) := by decide +kernel
theorem d_F_prepare_140 : decode b_F_prepare 140 = .ok (.goto 5, 3) := by decide +kernel
theorem d_F_prepare_143 : decode b_F_prepare 143 = .ok (.bipush 20, 2) := by decide +kernel
theorem d_F_prepare_145 : decode b_F_prepare 145 = .ok (.invokevirtual 69, 3) := by decide +kernel
theorem d_F_prepare_148 : decode b_F_prepare 148 = .ok (.iinc 4 1, 3) := by decide +kernel
theorem d_F_prepare_151 : decode b_F_prepare 151 = .ok (.goto (-52), 3) := by decide +kernel
theorem d_F_prepare_154 : decode b_F_prepare 154 = .ok (.return_, 1) := by decide +kernel
theorem d_F_addEdge_0 : decode b_F_addEdge 0 = .ok (.aload_n 0, 1) := by decide +kernel
theorem d_F_addEdge_1 : decode b_F_addEdge 1 = .ok (.getfield 34, 3) := by decide +kernel
theorem d_F_addEdge_4 : decode b_F_addEdge 4 = .ok (.iconst 2, 1) := by decide +kernel
theorem d_F_addEdge_5 : decode b_F_addEdge 5 = .ok (.iadd, 1) := by decide +kernel
theorem d_F_addEdge_6 : decode b_F_addEdge 6 = .ok (.bipush 56, 2) := by decide +kernel
theorem d_F_addEdge_8 : decode b_F_addEdge 8 = .ok (.if_icmp .le 4, 3) := by decide +kernel
theorem d_F_addEdge_11 : decode b_F_addEdge 11 = .ok (.return_, 1) := by decide +kernel
theorem d_F_addEdge_12 : decode b_F_addEdge 12 = .ok (.aload_n 0, 1) := by decide +kernel
theorem d_F_addEdge_13 : decode b_F_addEdge 13 = .ok (.aload_n 0, 1) := by decide +kernel
theorem d_F_addEdge_14 : decode b_F_addEdge 14 = .ok (.getfield 34, 3) := by decide +kernel
theorem d_F_addEdge_17 : decode b_F_addEdge 17 = .ok (.iload_n 1, 1) := by decide +kernel
theorem d_F_addEdge_18 : decode b_F_addEdge 18 = .ok (.iload_n 2, 1) := by decide +kernel
theorem d_F_addEdge_19 : decode b_F_addEdge 19 = .ok (.iload_n 3, 1) := by decide +kernel
theorem d_F_addEdge_20 : decode b_F_addEdge 20 = .ok (.iload 4, 2) := by decide +kernel
theorem d_F_addEdge_22 : decode b_F_addEdge 22 = .ok (.invokevirtual 76, 3) := by decide +kernel
theorem d_F_addEdge_25 : decode b_F_addEdge 25 = .ok (.aload_n 0, 1) := by decide +kernel
theorem d_F_addEdge_26 : decode b_F_addEdge 26 = .ok (.aload_n 0, 1) := by decide +kernel
theorem d_F_addEdge_27 : decode b_F_addEdge 27 = .ok (.getfield 34, 3) := by decide +kernel
theorem d_F_addEdge_30 : decode b_F_addEdge 30 = .ok (.iconst 1, 1) := by decide +kernel
theorem d_F_addEdge_31 : decode b_F_addEdge 31 = .ok (.iadd, 1) := by decide +kernel
theorem d_F_addEdge_32 : decode b_F_addEdge 32 = .ok (.iload_n 2, 1) := by decide +kernel
theorem d_F_addEdge_33 : decode b_F_addEdge 33 = .ok (.iload_n 1, 1) := by decide +kernel
theorem d_F_addEdge_34 : decode b_F_addEdge 34 = .ok (.iload_n 3, 1) := by decide +kernel
theorem d_F_addEdge_35 : decode b_F_addEdge 35 = .ok (.ineg, 1) := by decide +kernel
theorem d_F_addEdge_36 : decode b_F_addEdge 36 = .ok (.iconst 0, 1) := by decide +kernel
theorem d_F_addEdge_37 : decode b_F_addEdge 37 = .ok (.invokevirtual 76, 3) := by decide +kernel
theorem d_F_addEdge_40 : decode b_F_addEdge 40 = .ok (.aload_n 0, 1) := by decide +kernel
theorem d_F_addEdge_41 : decode b_F_addEdge 41 = .ok (.dup, 1) := by decide +kernel
theorem d_F_addEdge_42 : decode b_F_addEdge 42 = .ok (.getfield 34, 3) := by decide +kernel
theorem d_F_addEdge_45 : decode b_F_addEdge 45 = .ok (.iconst 2, 1) := by decide +kernel
theorem d_F_addEdge_46 : decode b_F_addEdge 46 = .ok (.iadd, 1) := by decide +kernel
theorem d_F_addEdge_47 : decode b_F_addEdge 47 = .ok (.putfield 34, 3) := by decide +kernel
theorem d_F_addEdge_50 : decode b_F_addEdge 50 = .ok (.return_, 1) := by decide +kernel
theorem d_F_setEdge_0 : decode b_F_setEdge 0 = .ok (.aload_n 0, 1) := by decide +kernel
theorem d_F_setEdge_1 : decode b_F_setEdge 1 = .ok (.getfield 11, 3) := by decide +kernel
theorem d_F_setEdge_4 : decode b_F_setEdge 4 = .ok (.iload_n 1, 1) := by decide +kernel
theorem d_F_setEdge_5 : decode b_F_setEdge 5 = .ok (.iload_n 2, 1) := by decide +kernel
theorem d_F_setEdge_6 : decode b_F_setEdge 6 = .ok (.iastore, 1) := by decide +kernel
theorem d_F_setEdge_7 : decode b_F_setEdge 7 = .ok (.aload_n 0, 1) := by decide +kernel
theorem d_F_setEdge_8 : decode b_F_setEdge 8 = .ok (.getfield 15, 3) := by decide +kernel
theorem d_F_setEdge_11 : decode b_F_setEdge 11 = .ok (.iload_n 1, 1) := by decide +kernel
theorem d_F_setEdge_12 : decode b_F_setEdge 12 = .ok (.iload_n 3, 1) := by decide +kernel
theorem d_F_setEdge_13 : decode b_F_setEdge 13 = .ok (.iastore, 1) := by decide +kernel
theorem d_F_setEdge_14 : decode b_F_setEdge 14 = .ok (.aload_n 0, 1) := by decide +kernel
theorem d_F_setEdge_15 : decode b_F_setEdge 15 = .ok (.getfield 18, 3) := by decide +kernel
theorem d_F_setEdge_18 : decode b_F_setEdge 18 = .ok (.iload_n 1, 1) := by decide +kernel
theorem d_F_setEdge_19 : decode b_F_setEdge 19 = .ok (.iload 4, 2) := by decide +kernel
theorem d_F_setEdge_21 : decode b_F_setEdge 21 = .ok (.iastore, 1) := by decide +kernel
theorem d_F_setEdge_22 : decode b_F_setEdge 22 = .ok (.aload_n 0, 1) := by decide +kernel
theorem d_F_setEdge_23 : decode b_F_setEdge 23 = .ok (.getfield 21, 3) := by decide +kernel
theorem d_F_setEdge_26 : decode b_F_setEdge 26 = .ok (.iload_n 1, 1) := by decide +kernel
theorem d_F_setEdge_27 : decode b_F_setEdge 27 = .ok (.iload 5, 2) := by decide +kernel
theorem d_F_setEdge_29 : decode b_F_setEdge 29 = .ok (.iastore, 1) := by decide +kernel
theorem d_F_setEdge_30 : decode b_F_setEdge 30 = .ok (.return_, 1) := by decide +kernel
theorem d_F_addPath_0 : decode b_F_addPath 0 = .ok (.aload_n 0, 1) := by decide +kernel
theorem d_F_addPath_1 : decode b_F_addPath 1 = .ok (.invokevirtual 80, 3) := by decide +kernel
theorem d_F_addPath_4 : decode b_F_addPath 4 = .ok (.aload_n 0, 1) := by decide +kernel
theorem d_F_addPath_5 : decode b_F_addPath 5 = .ok (.getfield 24, 3) := by decide +kernel
theorem d_F_addPath_8 : decode b_F_addPath 8 = .ok (.aload_n 0, 1) := by decide +kernel
theorem d_F_addPath_9 : decode b_F_addPath 9 = .ok (.getfield 48, 3) := by decide +kernel
theorem d_F_addPath_12 : decode b_F_addPath 12 = .ok (.iaload, 1) := by decide +kernel
theorem d_F_addPath_13 : decode b_F_addPath 13 = .ok (.ldc 83, 2) := by decide +kernel
theorem d_F_addPath_15 : decode b_F_addPath 15 = .ok (.if_icmp .lt 5, 3) := by decide +kernel
theorem d_F_addPath_18 : decode b_F_addPath 18 = .ok (.iconst (-1), 1) := by decide +kernel
theorem d_F_addPath_19 : decode b_F_addPath 19 = .ok (.ireturn, 1) := by decide +kernel
theorem d_F_addPath_20 : decode b_F_addPath 20 = .ok (.aload_n 0, 1) := by decide +kernel
theorem d_F_addPath_21 : decode b_F_addPath 21 = .ok (.getfield 48, 3) := by decide +kernel
theorem d_F_addPath_24 : decode b_F_addPath 24 = .ok (.istore_n 1, 1) := by decide +kernel
theorem d_F_addPath_25 : decode b_F_addPath 25 = .ok (.iconst 0, 1) := by decide +kernel
theorem d_F_addPath_26 : decode b_F_addPath 26 = .ok (.istore_n 2, 1) := by decide +kernel
theorem d_F_addPath_27 : decode b_F_addPath 27 = .ok (.iload_n 2, 1) := by decide +kernel
theorem d_F_addPath_28 : decode b_F_addPath 28 = .ok (.bipush 16, 2) := by decide +kernel
theorem d_F_addPath_30 : decode b_F_addPath 30 = .ok (.if_icmp .ge 53, 3) := by decide +kernel
theorem d_F_addPath_33 : decode b_F_addPath 33 = .ok (.iload_n 1, 1) := by decide +kernel
theorem d_F_addPath_34 : decode b_F_addPath 34 = .ok (.aload_n 0, 1) := by decide +kernel
theorem d_F_addPath_35 : decode b_F_addPath 35 = .ok (.getfield 42, 3) := by decide +kernel
theorem d_F_addPath_38 : decode b_F_addPath 38 = .ok (.if_icmp .eq 45, 3) := by decide +kernel
theorem d_F_addPath_41 : decode b_F_addPath 41 = .ok (.aload_n 0, 1) := by decide +kernel
theorem d_F_addPath_42 : decode b_F_addPath 42 = .ok (.getfield 27, 3) := by decide +kernel
theorem d_F_addPath_45 : decode b_F_addPath 45 = .ok (.iload_n 1, 1) := by decide +kernel
theorem d_F_addPath_46 : decode b_F_addPath 46 = .ok (.iaload, 1) := by decide +kernel
theorem d_F_addPath_47 : decode b_F_addPath 47 = .ok (.istore_n 3, 1) := by decide +kernel
theorem d_F_addPath_48 : decode b_F_addPath 48 = .ok (.aload_n 0, 1) := by decide +kernel
theorem d_F_addPath_49 : decode b_F_addPath 49 = .ok (.getfield 21, 3) := by decide +kernel
theorem d_F_addPath_52 : decode b_F_addPath 52 = .ok (.iload_n 3, 1) := by decide +kernel
theorem d_F_addPath_53 : decode b_F_addPath 53 = .ok (.dup2, 1) := by decide +kernel
theorem d_F_addPath_54 : decode b_F_addPath 54 = .ok (.iaload, 1) := by decide +kernel
theorem d_F_addPath_55 : decode b_F_addPath 55 = .ok (.iconst 1, 1) := by decide +kernel
theorem d_F_addPath_56 : decode b_F_addPath 56 = .ok (.isub, 1) := by decide +kernel
theorem d_F_addPath_57 : decode b_F_addPath 57 = .ok (.iastore, 1) := by decide +kernel
theorem d_F_addPath_58 : decode b_F_addPath 58 = .ok (.aload_n 0, 1) := by decide +kernel
theorem d_F_addPath_59 : decode b_F_addPath 59 = .ok (.getfield 21, 3) := by decide +kernel
theorem d_F_addPath_62 : decode b_F_addPath 62 = .ok (.iload_n 3, 1) := by decide +kernel
theorem d_F_addPath_63 : decode b_F_addPath 63 = .ok (.iconst 1, 1) := by decide +kernel
theorem d_F_addPath_64 : decode b_F_addPath 64 = .ok (.ixor, 1) := by decide +kernel
theorem d_F_addPath_65 : decode b_F_addPath 65 = .ok (.dup2, 1) := by decide +kernel
theorem d_F_addPath_66 : decode b_F_addPath 66 = .ok (.iaload, 1) := by decide +kernel
theorem d_F_addPath_67 : decode b_F_addPath 67 = .ok (.iconst 1, 1) := by decide +kernel
theorem d_F_addPath_68 : decode b_F_addPath 68 = .ok (.iadd, 1) := by decide +kernel
theorem d_F_addPath_69 : decode b_F_addPath 69 = .ok (.iastore, 1) := by decide +kernel
theorem d_F_addPath_70 : decode b_F_addPath 70 = .ok (.aload_n 0, 1) := by decide +kernel
theorem d_F_addPath_71 : decode b_F_addPath 71 = .ok (.getfield 11, 3) := by decide +kernel
theorem d_F_addPath_74 : decode b_F_addPath 74 = .ok (.iload_n 3, 1) := by decide +kernel
theorem d_F_addPath_75 : decode b_F_addPath 75 = .ok (.iaload, 1) := by decide +kernel
theorem d_F_addPath_76 : decode b_F_addPath 76 = .ok (.istore_n 1, 1) := by decide +kernel
theorem d_F_addPath_77 : decode b_F_addPath 77 = .ok (.iinc 2 1, 3) := by decide +kernel
theorem d_F_addPath_80 : decode b_F_addPath 80 = .ok (.goto (-53), 3) := by decide +kernel
theorem d_F_addPath_83 : decode b_F_addPath 83 = .ok (.aload_n 0, 1) := by decide +kernel
theorem d_F_addPath_84 : decode b_F_addPath 84 = .ok (.getfield 24, 3) := by decide +kernel
theorem d_F_addPath_87 : decode b_F_addPath 87 = .ok (.aload_n 0, 1) := by decide +kernel
theorem d_F_addPath_88 : decode b_F_addPath 88 = .ok (.getfield 48, 3) := by decide +kernel
theorem d_F_addPath_91 : decode b_F_addPath 91 = .ok (.iaload, 1) := by decide +kernel
theorem d_F_addPath_92 : decode b_F_addPath 92 = .ok (.ireturn, 1) := by decide +kernel
theorem d_F_measure_0 : decode b_F_measure 0 = .ok (.aload_n 0, 1) := by decide +kernel
theorem d_F_measure_1 : decode b_F_measure 1 = .ok (.getfield 24, 3) := by decide +kernel
theorem d_F_measure_4 : decode b_F_measure 4 = .ok (.ldc 83, 2) := by decide +kernel
theorem d_F_measure_6 : decode b_F_measure 6 = .ok (.invokestatic 84, 3) := by decide +kernel
theorem d_F_measure_9 : decode b_F_measure 9 = .ok (.aload_n 0, 1) := by decide +kernel
theorem d_F_measure_10 : decode b_F_measure 10 = .ok (.getfield 24, 3) := by decide +kernel
theorem d_F_measure_13 : decode b_F_measure 13 = .ok (.aload_n 0, 1) := by decide +kernel
theorem d_F_measure_14 : decode b_F_measure 14 = .ok (.getfield 42, 3) := by decide +kernel
theorem d_F_measure_17 : decode b_F_measure 17 = .ok (.iconst 0, 1) := by decide +kernel
theorem d_F_measure_18 : decode b_F_measure 18 = .ok (.iastore, 1) := by decide +kernel
theorem d_F_measure_19 : decode b_F_measure 19 = .ok (.iconst 1, 1) := by decide +kernel
theorem d_F_measure_20 : decode b_F_measure 20 = .ok (.istore_n 1, 1) := by decide +kernel
theorem d_F_measure_21 : decode b_F_measure 21 = .ok (.iconst 0, 1) := by decide +kernel
theorem d_F_measure_22 : decode b_F_measure 22 = .ok (.istore_n 2, 1) := by decide +kernel
theorem d_F_measure_23 : decode b_F_measure 23 = .ok (.iload_n 2, 1) := by decide +kernel
theorem d_F_measure_24 : decode b_F_measure 24 = .ok (.bipush 16, 2) := by decide +kernel
theorem d_F_measure_26 : decode b_F_measure 26 = .ok (.if_icmp .ge 39, 3) := by decide +kernel
theorem d_F_measure_29 : decode b_F_measure 29 = .ok (.iload_n 1, 1) := by decide +kernel
theorem d_F_measure_30 : decode b_F_measure 30 = .ok (.ifCond .eq 35, 3) := by decide +kernel
theorem d_F_measure_33 : decode b_F_measure 33 = .ok (.iconst 0, 1) := by decide +kernel
theorem d_F_measure_34 : decode b_F_measure 34 = .ok (.istore_n 1, 1) := by decide +kernel
theorem d_F_measure_35 : decode b_F_measure 35 = .ok (.iconst 0, 1) := by decide +kernel
theorem d_F_measure_36 : decode b_F_measure 36 = .ok (.istore_n 3, 1) := by decide +kernel
theorem d_F_measure_37 : decode b_F_measure 37 = .ok (.iload_n 3, 1) := by decide +kernel
theorem d_F_measure_38 : decode b_F_measure 38 = .ok (.aload_n 0, 1) := by decide +kernel
theorem d_F_measure_39 : decode b_F_measure 39 = .ok (.getfield 34, 3) := by decide +kernel
theorem d_F_measure_42 : decode b_F_measure 42 = .ok (.if_icmp .ge 17, 3) := by decide +kernel
theorem d_F_measure_45 : decode b_F_measure 45 = .ok (.iload_n 1, 1) := by decide +kernel
theorem d_F_measure_46 : decode b_F_measure 46 = .ok (.aload_n 0, 1) := by decide +kernel
theorem d_F_measure_47 : decode b_F_measure 47 = .ok (.iload_n 3, 1) := by decide +kernel
theorem d_F_measure_48 : decode b_F_measure 48 = .ok (.invokevirtual 90, 3) := by decide +kernel
theorem d_F_measure_51 : decode b_F_measure 51 = .ok (.ior, 1) := by decide +kernel
theorem d_F_measure_52 : decode b_F_measure 52 = .ok (.istore_n 1, 1) := by decide +kernel
theorem d_F_measure_53 : decode b_F_measure 53 = .ok (.iinc 3 1, 3) := by decide +kernel
theorem d_F_measure_56 : decode b_F_measure 56 = .ok (.goto (-19), 3) := by decide +kernel
theorem d_F_measure_59 : decode b_F_measure 59 = .ok (.iinc 2 1, 3) := by decide +kernel
theorem d_F_measure_62 : decode b_F_measure 62 = .ok (.goto (-39), 3) := by decide +kernel
theorem d_F_measure_65 : decode b_F_measure 65 = .ok (.return_, 1) := by decide +kernel
theorem d_F_tryEdge_0 : decode b_F_tryEdge 0 = .ok (.aload_n 0, 1) := by decide +kernel
theorem d_F_tryEdge_1 : decode b_F_tryEdge 1 = .ok (.getfield 11, 3) := by decide +kernel
theorem d_F_tryEdge_4 : decode b_F_tryEdge 4 = .ok (.iload_n 1, 1) := by decide +kernel
theorem d_F_tryEdge_5 : decode b_F_tryEdge 5 = .ok (.iaload, 1) := by decide +kernel
theorem d_F_tryEdge_6 : decode b_F_tryEdge 6 = .ok (.istore_n 2, 1) := by decide +kernel
theorem d_F_tryEdge_7 : decode b_F_tryEdge 7 = .ok (.aload_n 0, 1) := by decide +kernel
theorem d_F_tryEdge_8 : decode b_F_tryEdge 8 = .ok (.getfield 15, 3) := by decide +kernel
theorem d_F_tryEdge_11 : decode b_F_tryEdge 11 = .ok (.iload_n 1, 1) := by decide +kernel
theorem d_F_tryEdge_12 : decode b_F_tryEdge 12 = .ok (.iaload, 1) := by decide +kernel
theorem d_F_tryEdge_13 : decode b_F_tryEdge 13 = .ok (.istore_n 3, 1) := by decide +kernel
theorem d_F_tryEdge_14 : decode b_F_tryEdge 14 = .ok (.aload_n 0, 1) := by decide +kernel
theorem d_F_tryEdge_15 : decode b_F_tryEdge 15 = .ok (.getfield 21, 3) := by decide +kernel
theorem d_F_tryEdge_18 : decode b_F_tryEdge 18 = .ok (.iload_n 1, 1) := by decide +kernel
theorem d_F_tryEdge_19 : decode b_F_tryEdge 19 = .ok (.iaload, 1) := by decide +kernel
theorem d_F_tryEdge_20 : decode b_F_tryEdge 20 = .ok (.ifCond .le 36, 3) := by decide +kernel
theorem d_F_tryEdge_23 : decode b_F_tryEdge 23 = .ok (.aload_n 0, 1) := by decide +kernel
theorem d_F_tryEdge_24 : decode b_F_tryEdge 24 = .ok (.getfield 24, 3) := by decide +kernel
theorem d_F_tryEdge_27 : decode b_F_tryEdge 27 = .ok (.iload_n 2, 1) := by decide +kernel
theorem d_F_tryEdge_28 : decode b_F_tryEdge 28 = .ok (.iaload, 1) := by decide +kernel
theorem d_F_tryEdge_29 : decode b_F_tryEdge 29 = .ok (.ldc 83, 2) := by decide +kernel
theorem d_F_tryEdge_31 : decode b_F_tryEdge 31 = .ok (.if_icmp .ge 25, 3) := by decide +kernel
theorem d_F_tryEdge_34 : decode b_F_tryEdge 34 = .ok (.aload_n 0, 1) := by decide +kernel
theorem d_F_tryEdge_35 : decode b_F_tryEdge 35 = .ok (.getfield 24, 3) := by decide +kernel
theorem d_F_tryEdge_38 : decode b_F_tryEdge 38 = .ok (.iload_n 2, 1) := by decide +kernel
theorem d_F_tryEdge_39 : decode b_F_tryEdge 39 = .ok (.iaload, 1) := by decide +kernel
theorem d_F_tryEdge_40 : decode b_F_tryEdge 40 = .ok (.aload_n 0, 1) := by decide +kernel
theorem d_F_tryEdge_41 : decode b_F_tryEdge 41 = .ok (.getfield 18, 3) := by decide +kernel
theorem d_F_tryEdge_44 : decode b_F_tryEdge 44 = .ok (.iload_n 1, 1) := by decide +kernel
theorem d_F_tryEdge_45 : decode b_F_tryEdge 45 = .ok (.iaload, 1) := by decide +kernel
theorem d_F_tryEdge_46 : decode b_F_tryEdge 46 = .ok (.iadd, 1) := by decide +kernel
theorem d_F_tryEdge_47 : decode b_F_tryEdge 47 = .ok (.aload_n 0, 1) := by decide +kernel
theorem d_F_tryEdge_48 : decode b_F_tryEdge 48 = .ok (.getfield 24, 3) := by decide +kernel
theorem d_F_tryEdge_51 : decode b_F_tryEdge 51 = .ok (.iload_n 3, 1) := by decide +kernel
theorem d_F_tryEdge_52 : decode b_F_tryEdge 52 = .ok (.iaload, 1) := by decide +kernel
theorem d_F_tryEdge_53 : decode b_F_tryEdge 53 = .ok (.if_icmp .lt 5, 3) := by decide +kernel
theorem d_F_tryEdge_56 : decode b_F_tryEdge 56 = .ok (.iconst 0, 1) := by decide +kernel
theorem d_F_tryEdge_57 : decode b_F_tryEdge 57 = .ok (.ireturn, 1) := by decide +kernel
theorem d_F_tryEdge_58 : decode b_F_tryEdge 58 = .ok (.aload_n 0, 1) := by decide +kernel
theorem d_F_tryEdge_59 : decode b_F_tryEdge 59 = .ok (.getfield 24, 3) := by decide +kernel
theorem d_F_tryEdge_62 : decode b_F_tryEdge 62 = .ok (.iload_n 3, 1) := by decide +kernel
theorem d_F_tryEdge_63 : decode b_F_tryEdge 63 = .ok (.aload_n 0, 1) := by decide +kernel
theorem d_F_tryEdge_64 : decode b_F_tryEdge 64 = .ok (.getfield 24, 3) := by decide +kernel
theorem d_F_tryEdge_67 : decode b_F_tryEdge 67 = .ok (.iload_n 2, 1) := by decide +kernel
theorem d_F_tryEdge_68 : decode b_F_tryEdge 68 = .ok (.iaload, 1) := by decide +kernel
theorem d_F_tryEdge_69 : decode b_F_tryEdge 69 = .ok (.aload_n 0, 1) := by decide +kernel
theorem d_F_tryEdge_70 : decode b_F_tryEdge 70 = .ok (.getfield 18, 3) := by decide +kernel
theorem d_F_tryEdge_73 : decode b_F_tryEdge 73 = .ok (.iload_n 1, 1) := by decide +kernel
theorem d_F_tryEdge_74 : decode b_F_tryEdge 74 = .ok (.iaload, 1) := by decide +kernel
theorem d_F_tryEdge_75 : decode b_F_tryEdge 75 = .ok (.iadd, 1) := by decide +kernel
theorem d_F_tryEdge_76 : decode b_F_tryEdge 76 = .ok (.iastore, 1) := by decide +kernel
theorem d_F_tryEdge_77 : decode b_F_tryEdge 77 = .ok (.aload_n 0, 1) := by decide +kernel
theorem d_F_tryEdge_78 : decode b_F_tryEdge 78 = .ok (.getfield 27, 3) := by decide +kernel
theorem d_F_tryEdge_81 : decode b_F_tryEdge 81 = .ok (.iload_n 3, 1) := by decide +kernel
theorem d_F_tryEdge_82 : decode b_F_tryEdge 82 = .ok (.iload_n 1, 1) := by decide +kernel
theorem d_F_tryEdge_83 : decode b_F_tryEdge 83 = .ok (.iastore, 1) := by decide +kernel
theorem d_F_tryEdge_84 : decode b_F_tryEdge 84 = .ok (.iconst 1, 1) := by decide +kernel
theorem d_F_tryEdge_85 : decode b_F_tryEdge 85 = .ok (.ireturn, 1) := by decide +kernel
theorem d_G_init_0 : decode b_G_init 0 = .ok (.aload_n 0, 1) := by decide +kernel
theorem d_G_init_1 : decode b_G_init 1 = .ok (.invokespecial 3, 3) := by decide +kernel
theorem d_G_init_4 : decode b_G_init 4 = .ok (.aload_n 0, 1) := by decide +kernel
theorem d_G_init_5 : decode b_G_init 5 = .ok (.bipush 20, 2) := by decide +kernel
theorem d_G_init_7 : decode b_G_init 7 = .ok (.newarray .int, 2) := by decide +kernel
theorem d_G_init_9 : decode b_G_init 9 = .ok (.putfield 9, 3) := by decide +kernel
theorem d_G_init_12 : decode b_G_init 12 = .ok (.aload_n 0, 1) := by decide +kernel
theorem d_G_init_13 : decode b_G_init 13 = .ok (.bipush 20, 2) := by decide +kernel
theorem d_G_init_15 : decode b_G_init 15 = .ok (.newarray .int, 2) := by decide +kernel
theorem d_G_init_17 : decode b_G_init 17 = .ok (.putfield 15, 3) := by decide +kernel
theorem d_G_init_20 : decode b_G_init 20 = .ok (.aload_n 0, 1) := by decide +kernel
theorem d_G_init_21 : decode b_G_init 21 = .ok (.bipush 20, 2) := by decide +kernel
theorem d_G_init_23 : decode b_G_init 23 = .ok (.newarray .int, 2) := by decide +kernel
theorem d_G_init_25 : decode b_G_init 25 = .ok (.putfield 18, 3) := by decide +kernel
theorem d_G_init_28 : decode b_G_init 28 = .ok (.aload_n 0, 1) := by decide +kernel
theorem d_G_init_29 : decode b_G_init 29 = .ok (.bipush 20, 2) := by decide +kernel
theorem d_G_init_31 : decode b_G_init 31 = .ok (.newarray .int, 2) := by decide +kernel
theorem d_G_init_33 : decode b_G_init 33 = .ok (.putfield 21, 3) := by decide +kernel
theorem d_G_init_36 : decode b_G_init 36 = .ok (.aload_n 0, 1) := by decide +kernel
theorem d_G_init_37 : decode b_G_init 37 = .ok (.bipush 20, 2) := by decide +kernel
theorem d_G_init_39 : decode b_G_init 39 = .ok (.newarray .boolean, 2) := by decide +kernel
theorem d_G_init_41 : decode b_G_init 41 = .ok (.putfield 24, 3) := by decide +kernel
theorem d_G_init_44 : decode b_G_init 44 = .ok (.aload_n 0, 1) := by decide +kernel
theorem d_G_init_45 : decode b_G_init 45 = .ok (.bipush 8, 2) := by decide +kernel
theorem d_G_init_47 : decode b_G_init 47 = .ok (.bipush 20, 2) := by decide +kernel
theorem d_G_init_49 : decode b_G_init 49 = .ok (.multianewarray 28 2, 4) := by decide +kernel
theorem d_G_init_53 : decode b_G_init 53 = .ok (.putfield 30, 3) := by decide +kernel
theorem d_G_init_56 : decode b_G_init 56 = .ok (.aload_n 0, 1) := by decide +kernel
theorem d_G_init_57 : decode b_G_init 57 = .ok (.bipush 8, 2) := by decide +kernel
theorem d_G_init_59 : decode b_G_init 59 = .ok (.newarray .int, 2) := by decide +kernel
theorem d_G_init_61 : decode b_G_init 61 = .ok (.putfield 33, 3) := by decide +kernel
theorem d_G_init_64 : decode b_G_init 64 = .ok (.return_, 1) := by decide +kernel
theorem d_G_empty_0 : decode b_G_empty 0 = .ok (.aload_n 0, 1) := by decide +kernel
theorem d_G_empty_1 : decode b_G_empty 1 = .ok (.iconst 0, 1) := by decide +kernel
theorem d_G_empty_2 : decode b_G_empty 2 = .ok (.putfield 36, 3) := by decide +kernel
theorem d_G_empty_5 : decode b_G_empty 5 = .ok (.aload_n 0, 1) := by decide +kernel
theorem d_G_empty_6 : decode b_G_empty 6 = .ok (.iconst 0, 1) := by decide +kernel
theorem d_G_empty_7 : decode b_G_empty 7 = .ok (.putfield 40, 3) := by decide +kernel
theorem d_G_empty_10 : decode b_G_empty 10 = .ok (.aload_n 0, 1) := by decide +kernel
theorem d_G_empty_11 : decode b_G_empty 11 = .ok (.getfield 33, 3) := by decide +kernel
theorem d_G_empty_14 : decode b_G_empty 14 = .ok (.iconst 0, 1) := by decide +kernel
theorem d_G_empty_15 : decode b_G_empty 15 = .ok (.invokestatic 43, 3) := by decide +kernel
theorem d_G_empty_18 : decode b_G_empty 18 = .ok (.return_, 1) := by decide +kernel
theorem d_G_isNode_0 : decode b_G_isNode 0 = .ok (.iload_n 1, 1) := by decide +kernel
theorem d_G_isNode_1 : decode b_G_isNode 1 = .ok (.iconst 0, 1) := by decide +kernel
theorem d_G_isNode_2 : decode b_G_isNode 2 = .ok (.aload_n 0, 1) := by decide +kernel
theorem d_G_isNode_3 : decode b_G_isNode 3 = .ok (.getfield 36, 3) := by decide +kernel
theorem d_G_isNode_6 : decode b_G_isNode 6 = .ok (.iconst 1, 1) := by decide +kernel
theorem d_G_isNode_7 : decode b_G_isNode 7 = .ok (.isub, 1) := by decide +kernel
theorem d_G_isNode_8 : decode b_G_isNode 8 = .ok (.invokestatic 49, 3) := by decide +kernel
theorem d_G_isNode_11 : decode b_G_isNode 11 = .ok (.ireturn, 1) := by decide +kernel
theorem d_G_areTwoNodes_0 : decode b_G_areTwoNodes 0 = .ok (.aload_n 0, 1) := by decide +kernel
theorem d_G_areTwoNodes_1 : decode b_G_areTwoNodes 1 = .ok (.iload_n 1, 1) := by decide +kernel
theorem d_G_areTwoNodes_2 : decode b_G_areTwoNodes 2 = .ok (.invokevirtual 53, 3) := by decide +kernel
theorem d_G_areTwoNodes_5 : decode b_G_areTwoNodes 5 = .ok (.ifCond .eq 20, 3) := by decide +kernel
theorem d_G_areTwoNodes_8 : decode b_G_areTwoNodes 8 = .ok (.aload_n 0, 1) := by decide +kernel
theorem d_G_areTwoNodes_9 : decode b_G_areTwoNodes 9 = .ok (.iload_n 2, 1) := by decide +kernel
theorem d_G_areTwoNodes_10 : decode b_G_areTwoNodes 10 = .ok (.invokevirtual 53, 3) := by decide +kernel
theorem d_G_areTwoNodes_13 : decode b_G_areTwoNodes 13 = .ok (.ifCond .eq 12, 3) := by decide +kernel
theorem d_G_areTwoNodes_16 : decode b_G_areTwoNodes 16 = .ok (.iload_n 1, 1) := by decide +kernel
theorem d_G_areTwoNodes_17 : decode b_G_areTwoNodes 17 = .ok (.iload_n 2, 1) := by decide +kernel
theorem d_G_areTwoNodes_18 : decode b_G_areTwoNodes 18 = .ok (.if_icmp .eq 7, 3) := by decide +kernel
theorem d_G_areTwoNodes_21 : decode b_G_areTwoNodes 21 = .ok (.iconst 1, 1) := by decide +kernel
theorem d_G_areTwoNodes_22 : decode b_G_areTwoNodes 22 = .ok (.goto 4, 3) := by decide +kernel
theorem d_G_areTwoNodes_25 : decode b_G_areTwoNodes 25 = .ok (.iconst 0, 1) := by decide +kernel
theorem d_G_areTwoNodes_26 : decode b_G_areTwoNodes 26 = .ok (.ireturn, 1) := by decide +kernel
theorem d_G_isArc_0 : decode b_G_isArc 0 = .ok (.iload_n 1, 1) := by decide +kernel
theorem d_G_isArc_1 : decode b_G_isArc 1 = .ok (.iconst 0, 1) := by decide +kernel
theorem d_G_isArc_2 : decode b_G_isArc 2 = .ok (.aload_n 0, 1) := by decide +kernel
theorem d_G_isArc_3 : decode b_G_isArc 3 = .ok (.getfield 40, 3) := by decide +kernel
theorem d_G_isArc_6 : decode b_G_isArc 6 = .ok (.iconst 1, 1) := by decide +kernel
theorem d_G_isArc_7 : decode b_G_isArc 7 = .ok (.isub, 1) := by decide +kernel
theorem d_G_isArc_8 : decode b_G_isArc 8 = .ok (.invokestatic 49, 3) := by decide +kernel
theorem d_G_isArc_11 : decode b_G_isArc 11 = .ok (.ireturn, 1) := by decide +kernel
theorem d_G_addNode_0 : decode b_G_addNode 0 = .ok (.aload_n 0, 1) := by decide +kernel
theorem d_G_addNode_1 : decode b_G_addNode 1 = .ok (.getfield 36, 3) := by decide +kernel
theorem d_G_addNode_4 : decode b_G_addNode 4 = .ok (.bipush 8, 2) := by decide +kernel
theorem d_G_addNode_6 : decode b_G_addNode 6 = .ok (.if_icmp .lt 6, 3) := by decide +kernel
theorem d_G_addNode_9 : decode b_G_addNode 9 = .ok (.bipush (-3), 2) := by decide +kernel
theorem d_G_addNode_11 : decode b_G_addNode 11 = .ok (.ireturn, 1) := by decide +kernel
theorem d_G_addNode_12 : decode b_G_addNode 12 = .ok (.aload_n 0, 1) := by decide +kernel
theorem d_G_addNode_13 : decode b_G_addNode 13 = .ok (.dup, 1) := by decide +kernel
theorem d_G_addNode_14 : decode b_G_addNode 14 = .ok (.getfield 36, 3) := by decide +kernel
theorem d_G_addNode_17 : decode b_G_addNode 17 = .ok (.iconst 1, 1) := by decide +kernel
theorem d_G_addNode_18 : decode b_G_addNode 18 = .ok (.iadd, 1) := by decide +kernel
theorem d_G_addNode_19 : decode b_G_addNode 19 = .ok (.putfield 36, 3) := by decide +kernel
theorem d_G_addNode_22 : decode b_G_addNode 22 = .ok (.aload_n 0, 1) := by decide +kernel
theorem d_G_addNode_23 : decode b_G_addNode 23 = .ok (.getfield 36, 3) := by decide +kernel
theorem d_G_addNode_26 : decode b_G_addNode 26 = .ok (.iconst 1, 1) := by decide +kernel
theorem d_G_addNode_27 : decode b_G_addNode 27 = .ok (.isub, 1) := by decide +kernel
theorem d_G_addNode_28 : decode b_G_addNode 28 = .ok (.ireturn, 1) := by decide +kernel
theorem d_G_addArc_0 : decode b_G_addArc 0 = .ok (.aload_n 0, 1) := by decide +kernel
theorem d_G_addArc_1 : decode b_G_addArc 1 = .ok (.getfield 40, 3) := by decide +kernel
theorem d_G_addArc_4 : decode b_G_addArc 4 = .ok (.bipush 20, 2) := by decide +kernel
theorem d_G_addArc_6 : decode b_G_addArc 6 = .ok (.if_icmp .lt 6, 3) := by decide +kernel
theorem d_G_addArc_9 : decode b_G_addArc 9 = .ok (.bipush (-3), 2) := by decide +kernel
theorem d_G_addArc_11 : decode b_G_addArc 11 = .ok (.ireturn, 1) := by decide +kernel
theorem d_G_addArc_12 : decode b_G_addArc 12 = .ok (.aload_n 0, 1) := by decide +kernel
theorem d_G_addArc_13 : decode b_G_addArc 13 = .ok (.getfield 40, 3) := by decide +kernel
theorem d_G_addArc_16 : decode b_G_addArc 16 = .ok (.istore 5, 2) := by decide +kernel
theorem d_G_addArc_18 : decode b_G_addArc 18 = .ok (.aload_n 0, 1) := by decide +kernel
theorem d_G_addArc_19 : decode b_G_addArc 19 = .ok (.getfield 9, 3) := by decide +kernel
theorem d_G_addArc_22 : decode b_G_addArc 22 = .ok (.iload 5, 2) := by decide +kernel
theorem d_G_addArc_24 : decode b_G_addArc 24 = .ok (.iload_n 1, 1) := by decide +kernel
theorem d_G_addArc_25 : decode b_G_addArc 25 = .ok (.iastore, 1) := by decide +kernel
theorem d_G_addArc_26 : decode b_G_addArc 26 = .ok (.aload_n 0, 1) := by decide +kernel
theorem d_G_addArc_27 : decode b_G_addArc 27 = .ok (.getfield 15, 3) := by decide +kernel
theorem d_G_addArc_30 : decode b_G_addArc 30 = .ok (.iload 5, 2) := by decide +kernel
theorem d_G_addArc_32 : decode b_G_addArc 32 = .ok (.iload_n 2, 1) := by decide +kernel
theorem d_G_addArc_33 : decode b_G_addArc 33 = .ok (.iastore, 1) := by decide +kernel
theorem d_G_addArc_34 : decode b_G_addArc 34 = .ok (.aload_n 0, 1) := by decide +kernel
theorem d_G_addArc_35 : decode b_G_addArc 35 = .ok (.getfield 18, 3) := by decide +kernel
theorem d_G_addArc_38 : decode b_G_addArc 38 = .ok (.iload 5, 2) := by decide +kernel
theorem d_G_addArc_40 : decode b_G_addArc 40 = .ok (.iload_n 3, 1) := by decide +kernel
theorem d_G_addArc_41 : decode b_G_addArc 41 = .ok (.iastore, 1) := by decide +kernel
theorem d_G_addArc_42 : decode b_G_addArc 42 = .ok (.aload_n 0, 1) := by decide +kernel
theorem d_G_addArc_43 : decode b_G_addArc 43 = .ok (.getfield 21, 3) := by decide +kernel
theorem d_G_addArc_46 : decode b_G_addArc 46 = .ok (.iload 5, 2) := by decide +kernel
theorem d_G_addArc_48 : decode b_G_addArc 48 = .ok (.iload 4, 2) := by decide +kernel
theorem d_G_addArc_50 : decode b_G_addArc 50 = .ok (.iastore, 1) := by decide +kernel
theorem d_G_addArc_51 : decode b_G_addArc 51 = .ok (.aload_n 0, 1) := by decide +kernel
theorem d_G_addArc_52 : decode b_G_addArc 52 = .ok (.getfield 24, 3) := by decide +kernel
theorem d_G_addArc_55 : decode b_G_addArc 55 = .ok (.iload 5, 2) := by decide +kernel
theorem d_G_addArc_57 : decode b_G_addArc 57 = .ok (.iconst 0, 1) := by decide +kernel
theorem d_G_addArc_58 : decode b_G_addArc 58 = .ok (.bastore, 1) := by decide +kernel
theorem d_G_addArc_59 : decode b_G_addArc 59 = .ok (.aload_n 0, 1) := by decide +kernel
theorem d_G_addArc_60 : decode b_G_addArc 60 = .ok (.getfield 30, 3) := by decide +kernel
theorem d_G_addArc_63 : decode b_G_addArc 63 = .ok (.iload_n 1, 1) := by decide +kernel
theorem d_G_addArc_64 : decode b_G_addArc 64 = .ok (.aaload, 1) := by decide +kernel
theorem d_G_addArc_65 : decode b_G_addArc 65 = .ok (.aload_n 0, 1) := by decide +kernel
theorem d_G_addArc_66 : decode b_G_addArc 66 = .ok (.getfield 33, 3) := by decide +kernel
theorem d_G_addArc_69 : decode b_G_addArc 69 = .ok (.iload_n 1, 1) := by decide +kernel
theorem d_G_addArc_70 : decode b_G_addArc 70 = .ok (.iaload, 1) := by decide +kernel
theorem d_G_addArc_71 : decode b_G_addArc 71 = .ok (.iload 5, 2) := by decide +kernel
theorem d_G_addArc_73 : decode b_G_addArc 73 = .ok (.iastore, 1) := by decide +kernel
theorem d_G_addArc_74 : decode b_G_addArc 74 = .ok (.aload_n 0, 1) := by decide +kernel
theorem d_G_addArc_75 : decode b_G_addArc 75 = .ok (.getfield 33, 3) := by decide +kernel
theorem d_G_addArc_78 : decode b_G_addArc 78 = .ok (.iload_n 1, 1) := by decide +kernel
theorem d_G_addArc_79 : decode b_G_addArc 79 = .ok (.dup2, 1) := by decide +kernel
theorem d_G_addArc_80 : decode b_G_addArc 80 = .ok (.iaload, 1) := by decide +kernel
theorem d_G_addArc_81 : decode b_G_addArc 81 = .ok (.iconst 1, 1) := by decide +kernel
theorem d_G_addArc_82 : decode b_G_addArc 82 = .ok (.iadd, 1) := by decide +kernel
theorem d_G_addArc_83 : decode b_G_addArc 83 = .ok (.iastore, 1) := by decide +kernel
theorem d_G_addArc_84 : decode b_G_addArc 84 = .ok (.aload_n 0, 1) := by decide +kernel
theorem d_G_addArc_85 : decode b_G_addArc 85 = .ok (.dup, 1) := by decide +kernel
theorem d_G_addArc_86 : decode b_G_addArc 86 = .ok (.getfield 40, 3) := by decide +kernel
theorem d_G_addArc_89 : decode b_G_addArc 89 = .ok (.iconst 1, 1) := by decide +kernel
theorem d_G_addArc_90 : decode b_G_addArc 90 = .ok (.iadd, 1) := by decide +kernel
theorem d_G_addArc_91 : decode b_G_addArc 91 = .ok (.putfield 40, 3) := by decide +kernel
theorem d_G_addArc_94 : decode b_G_addArc 94 = .ok (.iload 5, 2) := by decide +kernel
theorem d_G_addArc_96 : decode b_G_addArc 96 = .ok (.ireturn, 1) := by decide +kernel
theorem d_G_shutArcs_0 : decode b_G_shutArcs 0 = .ok (.iconst 0, 1) := by decide +kernel
theorem d_G_shutArcs_1 : decode b_G_shutArcs 1 = .ok (.istore_n 1, 1) := by decide +kernel
theorem d_G_shutArcs_2 : decode b_G_shutArcs 2 = .ok (.iconst 0, 1) := by decide +kernel
theorem d_G_shutArcs_3 : decode b_G_shutArcs 3 = .ok (.istore_n 2, 1) := by decide +kernel
theorem d_G_shutArcs_4 : decode b_G_shutArcs 4 = .ok (.iload_n 2, 1) := by decide +kernel
theorem d_G_shutArcs_5 : decode b_G_shutArcs 5 = .ok (.aload_n 0, 1) := by decide +kernel
theorem d_G_shutArcs_6 : decode b_G_shutArcs 6 = .ok (.getfield 40, 3) := by decide +kernel
theorem d_G_shutArcs_9 : decode b_G_shutArcs 9 = .ok (.if_icmp .ge 21, 3) := by decide +kernel
theorem d_G_shutArcs_12 : decode b_G_shutArcs 12 = .ok (.aload_n 0, 1) := by decide +kernel
theorem d_G_shutArcs_13 : decode b_G_shutArcs 13 = .ok (.getfield 24, 3) := by decide +kernel
theorem d_G_shutArcs_16 : decode b_G_shutArcs 16 = .ok (.iload_n 2, 1) := by decide +kernel
theorem d_G_shutArcs_17 : decode b_G_shutArcs 17 = .ok (.baload, 1) := by decide +kernel
theorem d_G_shutArcs_18 : decode b_G_shutArcs 18 = .ok (.ifCond .eq 6, 3) := by decide +kernel
theorem d_G_shutArcs_21 : decode b_G_shutArcs 21 = .ok (.iinc 1 1, 3) := by decide +kernel
theorem d_G_shutArcs_24 : decode b_G_shutArcs 24 = .ok (.iinc 2 1, 3) := by decide +kernel
theorem d_G_shutArcs_27 : decode b_G_shutArcs 27 = .ok (.goto (-23), 3) := by decide +kernel
theorem d_G_shutArcs_30 : decode b_G_shutArcs 30 = .ok (.iload_n 1, 1) := by decide +kernel
theorem d_G_shutArcs_31 : decode b_G_shutArcs 31 = .ok (.ireturn, 1) := by decide +kernel
theorem d_G_secondOf_0 : decode b_G_secondOf 0 = .ok (.iconst 0, 1) := by decide +kernel
theorem d_G_secondOf_1 : decode b_G_secondOf 1 = .ok (.istore_n 3, 1) := by decide +kernel
theorem d_G_secondOf_2 : decode b_G_secondOf 2 = .ok (.iconst 0, 1) := by decide +kernel
theorem d_G_secondOf_3 : decode b_G_secondOf 3 = .ok (.istore 4, 2) := by decide +kernel
theorem d_G_secondOf_5 : decode b_G_secondOf 5 = .ok (.iload 4, 2) := by decide +kernel
theorem d_G_secondOf_7 : decode b_G_secondOf 7 = .ok (.lload_n 1, 1) := by decide +kernel
theorem d_G_secondOf_8 : decode b_G_secondOf 8 = .ok (.invokestatic 57, 3) := by decide +kernel
theorem d_G_secondOf_11 : decode b_G_secondOf 11 = .ok (.if_icmp .ge 36, 3) := by decide +kernel
theorem d_G_secondOf_14 : decode b_G_secondOf 14 = .ok (.lload_n 1, 1) := by decide +kernel
theorem d_G_secondOf_15 : decode b_G_secondOf 15 = .ok (.iload 4, 2) := by decide +kernel
theorem d_G_secondOf_17 : decode b_G_secondOf 17 = .ok (.invokestatic 63, 3) := by decide +kernel
theorem d_G_secondOf_20 : decode b_G_secondOf 20 = .ok (.istore 5, 2) := by decide +kernel
theorem d_G_secondOf_22 : decode b_G_secondOf 22 = .ok (.aload_n 0, 1) := by decide +kernel
theorem d_G_secondOf_23 : decode b_G_secondOf 23 = .ok (.iload 5, 2) := by decide +kernel
theorem d_G_secondOf_25 : decode b_G_secondOf 25 = .ok (.invokevirtual 67, 3) := by decide +kernel
theorem d_G_secondOf_28 : decode b_G_secondOf 28 = .ok (.ifCond .eq 13, 3) := by decide +kernel
theorem d_G_secondOf_31 : decode b_G_secondOf 31 = .ok (.iload_n 3, 1) := by decide +kernel
theorem d_G_secondOf_32 : decode b_G_secondOf 32 = .ok (.aload_n 0, 1) := by decide +kernel
theorem d_G_secondOf_33 : decode b_G_secondOf 33 = .ok (.getfield 21, 3) := by decide +kernel
theorem d_G_secondOf_36 : decode b_G_secondOf 36 = .ok (.iload 5, 2) := by decide +kernel
theorem d_G_secondOf_38 : decode b_G_secondOf 38 = .ok (.iaload, 1) := by decide +kernel
theorem d_G_secondOf_39 : decode b_G_secondOf 39 = .ok (.iadd, 1) := by decide +kernel
theorem d_G_secondOf_40 : decode b_G_secondOf 40 = .ok (.istore_n 3, 1) := by decide +kernel
theorem d_G_secondOf_41 : decode b_G_secondOf 41 = .ok (.iinc 4 1, 3) := by decide +kernel
theorem d_G_secondOf_44 : decode b_G_secondOf 44 = .ok (.goto (-39), 3) := by decide +kernel
theorem d_G_secondOf_47 : decode b_G_secondOf 47 = .ok (.iload_n 3, 1) := by decide +kernel
theorem d_G_secondOf_48 : decode b_G_secondOf 48 = .ok (.ireturn, 1) := by decide +kernel
theorem d_C_head_0 : decode b_C_head 0 = .ok (.iload_n 0, 1) := by decide +kernel
theorem d_C_head_1 : decode b_C_head 1 = .ok (.i2l, 1) := by decide +kernel
theorem d_C_head_2 : decode b_C_head 2 = .ok (.bipush 38, 2) := by decide +kernel
theorem d_C_head_4 : decode b_C_head 4 = .ok (.lshl, 1) := by decide +kernel
theorem d_C_head_5 : decode b_C_head 5 = .ok (.iload_n 1, 1) := by decide +kernel
theorem d_C_head_6 : decode b_C_head 6 = .ok (.i2l, 1) := by decide +kernel
theorem d_C_head_7 : decode b_C_head 7 = .ok (.bipush 35, 2) := by decide +kernel
theorem d_C_head_9 : decode b_C_head 9 = .ok (.lshl, 1) := by decide +kernel
theorem d_C_head_10 : decode b_C_head 10 = .ok (.lor, 1) := by decide +kernel
theorem d_C_head_11 : decode b_C_head 11 = .ok (.lreturn, 1) := by decide +kernel
theorem d_C_arcAt_0 : decode b_C_arcAt 0 = .ok (.iload_n 0, 1) := by decide +kernel
theorem d_C_arcAt_1 : decode b_C_arcAt 1 = .ok (.i2l, 1) := by decide +kernel
theorem d_C_arcAt_2 : decode b_C_arcAt 2 = .ok (.iload_n 1, 1) := by decide +kernel
theorem d_C_arcAt_3 : decode b_C_arcAt 3 = .ok (.invokestatic 11, 3) := by decide +kernel
theorem d_C_arcAt_6 : decode b_C_arcAt 6 = .ok (.lshl, 1) := by decide +kernel
theorem d_C_arcAt_7 : decode b_C_arcAt 7 = .ok (.lreturn, 1) := by decide +kernel
theorem d_C_weightIn_0 : decode b_C_weightIn 0 = .ok (.lload_n 0, 1) := by decide +kernel
theorem d_C_weightIn_1 : decode b_C_weightIn 1 = .ok (.bipush 38, 2) := by decide +kernel
theorem d_C_weightIn_3 : decode b_C_weightIn 3 = .ok (.lshr, 1) := by decide +kernel
theorem d_C_weightIn_4 : decode b_C_weightIn 4 = .ok (.l2i, 1) := by decide +kernel
theorem d_C_weightIn_5 : decode b_C_weightIn 5 = .ok (.ireturn, 1) := by decide +kernel
theorem d_C_lengthIn_0 : decode b_C_lengthIn 0 = .ok (.lload_n 0, 1) := by decide +kernel
theorem d_C_lengthIn_1 : decode b_C_lengthIn 1 = .ok (.bipush 35, 2) := by decide +kernel
theorem d_C_lengthIn_3 : decode b_C_lengthIn 3 = .ok (.lshr, 1) := by decide +kernel
theorem d_C_lengthIn_4 : decode b_C_lengthIn 4 = .ok (.l2i, 1) := by decide +kernel
theorem d_C_lengthIn_5 : decode b_C_lengthIn 5 = .ok (.bipush 7, 2) := by decide +kernel
theorem d_C_lengthIn_7 : decode b_C_lengthIn 7 = .ok (.iand, 1) := by decide +kernel
theorem d_C_lengthIn_8 : decode b_C_lengthIn 8 = .ok (.ireturn, 1) := by decide +kernel
theorem d_C_arcIn_0 : decode b_C_arcIn 0 = .ok (.lload_n 0, 1) := by decide +kernel
theorem d_C_arcIn_1 : decode b_C_arcIn 1 = .ok (.iload_n 2, 1) := by decide +kernel
theorem d_C_arcIn_2 : decode b_C_arcIn 2 = .ok (.invokestatic 11, 3) := by decide +kernel
theorem d_C_arcIn_5 : decode b_C_arcIn 5 = .ok (.lshr, 1) := by decide +kernel
theorem d_C_arcIn_6 : decode b_C_arcIn 6 = .ok (.l2i, 1) := by decide +kernel
theorem d_C_arcIn_7 : decode b_C_arcIn 7 = .ok (.bipush 31, 2) := by decide +kernel
theorem d_C_arcIn_9 : decode b_C_arcIn 9 = .ok (.iand, 1) := by decide +kernel
theorem d_C_arcIn_10 : decode b_C_arcIn 10 = .ok (.ireturn, 1) := by decide +kernel
theorem d_C_shiftOf_0 : decode b_C_shiftOf 0 = .ok (.iconst 5, 1) := by decide +kernel
theorem d_C_shiftOf_1 : decode b_C_shiftOf 1 = .ok (.bipush 6, 2) := by decide +kernel
theorem d_C_shiftOf_3 : decode b_C_shiftOf 3 = .ok (.iload_n 0, 1) := by decide +kernel
theorem d_C_shiftOf_4 : decode b_C_shiftOf 4 = .ok (.isub, 1) := by decide +kernel
theorem d_C_shiftOf_5 : decode b_C_shiftOf 5 = .ok (.imul, 1) := by decide +kernel
theorem d_C_shiftOf_6 : decode b_C_shiftOf 6 = .ok (.ireturn, 1) := by decide +kernel
theorem d_P_init_0 : decode b_P_init 0 = .ok (.aload_n 0, 1) := by decide +kernel
theorem d_P_init_1 : decode b_P_init 1 = .ok (.invokespecial 3, 3) := by decide +kernel
theorem d_P_init_4 : decode b_P_init 4 = .ok (.aload_n 0, 1) := by decide +kernel
theorem d_P_init_5 : decode b_P_init 5 = .ok (.bipush 8, 2) := by decide +kernel
theorem d_P_init_7 : decode b_P_init 7 = .ok (.newarray .boolean, 2) := by decide +kernel
theorem d_P_init_9 : decode b_P_init 9 = .ok (.putfield 9, 3) := by decide +kernel
theorem d_P_init_12 : decode b_P_init 12 = .ok (.aload_n 0, 1) := by decide +kernel
theorem d_P_init_13 : decode b_P_init 13 = .ok (.bipush 7, 2) := by decide +kernel
theorem d_P_init_15 : decode b_P_init 15 = .ok (.newarray .int, 2) := by decide +kernel
theorem d_P_init_17 : decode b_P_init 17 = .ok (.putfield 15, 3) := by decide +kernel
theorem d_P_init_20 : decode b_P_init 20 = .ok (.aload_n 0, 1) := by decide +kernel
theorem d_P_init_21 : decode b_P_init 21 = .ok (.aload_n 1, 1) := by decide +kernel
theorem d_P_init_22 : decode b_P_init 22 = .ok (.putfield 19, 3) := by decide +kernel
theorem d_P_init_25 : decode b_P_init 25 = .ok (.aload_n 0, 1) := by decide +kernel
theorem d_P_init_26 : decode b_P_init 26 = .ok (.aload_n 2, 1) := by decide +kernel
theorem d_P_init_27 : decode b_P_init 27 = .ok (.putfield 23, 3) := by decide +kernel
theorem d_P_init_30 : decode b_P_init 30 = .ok (.return_, 1) := by decide +kernel
theorem d_P_findAll_0 : decode b_P_findAll 0 = .ok (.aload_n 0, 1) := by decide +kernel
theorem d_P_findAll_1 : decode b_P_findAll 1 = .ok (.getfield 23, 3) := by decide +kernel
theorem d_P_findAll_4 : decode b_P_findAll 4 = .ok (.invokevirtual 27, 3) := by decide +kernel
theorem d_P_findAll_7 : decode b_P_findAll 7 = .ok (.aload_n 0, 1) := by decide +kernel
theorem d_P_findAll_8 : decode b_P_findAll 8 = .ok (.iload_n 2, 1) := by decide +kernel
theorem d_P_findAll_9 : decode b_P_findAll 9 = .ok (.putfield 32, 3) := by decide +kernel
theorem d_P_findAll_12 : decode b_P_findAll 12 = .ok (.aload_n 0, 1) := by decide +kernel
theorem d_P_findAll_13 : decode b_P_findAll 13 = .ok (.iload_n 1, 1) := by decide +kernel
theorem d_P_findAll_14 : decode b_P_findAll 14 = .ok (.iconst 0, 1) := by decide +kernel
theorem d_P_findAll_15 : decode b_P_findAll 15 = .ok (.invokestatic 36, 3) := by decide +kernel
theorem d_P_findAll_18 : decode b_P_findAll 18 = .ok (.return_, 1) := by decide +kernel
theorem d_P_walkOn_0 : decode b_P_walkOn 0 = .ok (.iload_n 1, 1) := by decide +kernel
theorem d_P_walkOn_1 : decode b_P_walkOn 1 = .ok (.aload_n 0, 1) := by decide +kernel
theorem d_P_walkOn_2 : decode b_P_walkOn 2 = .ok (.getfield 32, 3) := by decide +kernel
theorem d_P_walkOn_5 : decode b_P_walkOn 5 = .ok (.if_icmp .ne 16, 3) := by decide +kernel
theorem d_P_walkOn_8 : decode b_P_walkOn 8 = .ok (.aload_n 0, 1) := by decide +kernel
theorem d_P_walkOn_9 : decode b_P_walkOn 9 = .ok (.getfield 23, 3) := by decide +kernel
theorem d_P_walkOn_12 : decode b_P_walkOn 12 = .ok (.aload_n 0, 1) := by decide +kernel
theorem d_P_walkOn_13 : decode b_P_walkOn 13 = .ok (.iload_n 2, 1) := by decide +kernel
theorem d_P_walkOn_14 : decode b_P_walkOn 14 = .ok (.invokevirtual 40, 3) := by decide +kernel
theorem d_P_walkOn_17 : decode b_P_walkOn 17 = .ok (.invokevirtual 44, 3) := by decide +kernel
theorem d_P_walkOn_20 : decode b_P_walkOn 20 = .ok (.return_, 1) := by decide +kernel
theorem d_P_walkOn_21 : decode b_P_walkOn 21 = .ok (.iload_n 2, 1) := by decide +kernel
theorem d_P_walkOn_22 : decode b_P_walkOn 22 = .ok (.bipush 7, 2) := by decide +kernel
theorem d_P_walkOn_24 : decode b_P_walkOn 24 = .ok (.if_icmp .lt 4, 3) := by decide +kernel
theorem d_P_walkOn_27 : decode b_P_walkOn 27 = .ok (.return_, 1) := by decide +kernel
theorem d_P_walkOn_28 : decode b_P_walkOn 28 = .ok (.aload_n 0, 1) := by decide +kernel
theorem d_P_walkOn_29 : decode b_P_walkOn 29 = .ok (.getfield 9, 3) := by decide +kernel
theorem d_P_walkOn_32 : decode b_P_walkOn 32 = .ok (.iload_n 1, 1) := by decide +kernel
theorem d_P_walkOn_33 : decode b_P_walkOn 33 = .ok (.iconst 1, 1) := by decide +kernel
theorem d_P_walkOn_34 : decode b_P_walkOn 34 = .ok (.bastore, 1) := by decide +kernel
theorem d_P_walkOn_35 : decode b_P_walkOn 35 = .ok (.iconst 0, 1) := by decide +kernel
theorem d_P_walkOn_36 : decode b_P_walkOn 36 = .ok (.istore_n 3, 1) := by decide +kernel
theorem d_P_walkOn_37 : decode b_P_walkOn 37 = .ok (.iload_n 3, 1) := by decide +kernel
theorem d_P_walkOn_38 : decode b_P_walkOn 38 = .ok (.aload_n 0, 1) := by decide +kernel
theorem d_P_walkOn_39 : decode b_P_walkOn 39 = .ok (.getfield 19, 3) := by decide +kernel
theorem d_P_walkOn_42 : decode b_P_walkOn 42 = .ok (.getfield 48, 3) := by decide +kernel
theorem d_P_walkOn_45 : decode b_P_walkOn 45 = .ok (.iload_n 1, 1) := by decide +kernel
theorem d_P_walkOn_46 : decode b_P_walkOn 46 = .ok (.iaload, 1) := by decide +kernel
theorem d_P_walkOn_47 : decode b_P_walkOn 47 = .ok (.if_icmp .ge 74, 3) := by decide +kernel
theorem d_P_walkOn_50 : decode b_P_walkOn 50 = .ok (.aload_n 0, 1) := by decide +kernel
theorem d_P_walkOn_51 : decode b_P_walkOn 51 = .ok (.getfield 19, 3) := by decide +kernel
theorem d_P_walkOn_54 : decode b_P_walkOn 54 = .ok (.getfield 53, 3) := by decide +kernel
theorem d_P_walkOn_57 : decode b_P_walkOn 57 = .ok (.iload_n 1, 1) := by decide +kernel
theorem d_P_walkOn_58 : decode b_P_walkOn 58 = .ok (.aaload, 1) := by decide +kernel
theorem d_P_walkOn_59 : decode b_P_walkOn 59 = .ok (.iload_n 3, 1) := by decide +kernel
theorem d_P_walkOn_60 : decode b_P_walkOn 60 = .ok (.iaload, 1) := by decide +kernel
theorem d_P_walkOn_61 : decode b_P_walkOn 61 = .ok (.istore 4, 2) := by decide +kernel
theorem d_P_walkOn_63 : decode b_P_walkOn 63 = .ok (.aload_n 0, 1) := by decide +kernel
theorem d_P_walkOn_64 : decode b_P_walkOn 64 = .ok (.getfield 19, 3) := by decide +kernel
theorem d_P_walkOn_67 : decode b_P_walkOn 67 = .ok (.getfield 57, 3) := by decide +kernel
theorem d_P_walkOn_70 : decode b_P_walkOn 70 = .ok (.iload 4, 2) := by decide +kernel
theorem d_P_walkOn_72 : decode b_P_walkOn 72 = .ok (.iaload, 1) := by decide +kernel
theorem d_P_walkOn_73 : decode b_P_walkOn 73 = .ok (.istore 5, 2) := by decide +kernel
theorem d_P_walkOn_75 : decode b_P_walkOn 75 = .ok (.aload_n 0, 1) := by decide +kernel
theorem d_P_walkOn_76 : decode b_P_walkOn 76 = .ok (.getfield 19, 3) := by decide +kernel
theorem d_P_walkOn_79 : decode b_P_walkOn 79 = .ok (.getfield 60, 3) := by decide +kernel
theorem d_P_walkOn_82 : decode b_P_walkOn 82 = .ok (.iload 4, 2) := by decide +kernel
theorem d_P_walkOn_84 : decode b_P_walkOn 84 = .ok (.baload, 1) := by decide +kernel
theorem d_P_walkOn_85 : decode b_P_walkOn 85 = .ok (.ifCond .ne 30, 3) := by decide +kernel
theorem d_P_walkOn_88 : decode b_P_walkOn 88 = .ok (.aload_n 0, 1) := by decide +kernel
theorem d_P_walkOn_89 : decode b_P_walkOn 89 = .ok (.getfield 9, 3) := by decide +kernel
theorem d_P_walkOn_92 : decode b_P_walkOn 92 = .ok (.iload 5, 2) := by decide +kernel
theorem d_P_walkOn_94 : decode b_P_walkOn 94 = .ok (.baload, 1) := by decide +kernel
theorem d_P_walkOn_95 : decode b_P_walkOn 95 = .ok (.ifCond .ne 20, 3) := by decide +kernel
theorem d_P_walkOn_98 : decode b_P_walkOn 98 = .ok (.aload_n 0, 1) := by decide +kernel
theorem d_P_walkOn_99 : decode b_P_walkOn 99 = .ok (.getfield 15, 3) := by decide +kernel
theorem d_P_walkOn_102 : decode b_P_walkOn 102 = .ok (.iload_n 2, 1) := by decide +kernel
theorem d_P_walkOn_103 : decode b_P_walkOn 103 = .ok (.iload 4, 2) := by decide +kernel
theorem d_P_walkOn_105 : decode b_P_walkOn 105 = .ok (.iastore, 1) := by decide +kernel
theorem d_P_walkOn_106 : decode b_P_walkOn 106 = .ok (.aload_n 0, 1) := by decide +kernel
theorem d_P_walkOn_107 : decode b_P_walkOn 107 = .ok (.iload 5, 2) := by decide +kernel
theorem d_P_walkOn_109 : decode b_P_walkOn 109 = .ok (.iload_n 2, 1) := by decide +kernel
theorem d_P_walkOn_110 : decode b_P_walkOn 110 = .ok (.iconst 1, 1) := by decide +kernel
theorem d_P_walkOn_111 : decode b_P_walkOn 111 = .ok (.iadd, 1) := by decide +kernel
theorem d_P_walkOn_112 : decode b_P_walkOn 112 = .ok (.invokestatic 36, 3) := by decide +kernel
theorem d_P_walkOn_115 : decode b_P_walkOn 115 = .ok (.iinc 3 1, 3) := by decide +kernel
theorem d_P_walkOn_118 : decode b_P_walkOn 118 = .ok (.goto (-81), 3) := by decide +kernel
theorem d_P_walkOn_121 : decode b_P_walkOn 121 = .ok (.aload_n 0, 1) := by decide +kernel
theorem d_P_walkOn_122 : decode b_P_walkOn 122 = .ok (.getfield 9, 3) := by decide +kernel
theorem d_P_walkOn_125 : decode b_P_walkOn 125 = .ok (.iload_n 1, 1) := by decide +kernel
theorem d_P_walkOn_126 : decode b_P_walkOn 126 = .ok (.iconst 0, 1) := by decide +kernel
theorem d_P_walkOn_127 : decode b_P_walkOn 127 = .ok (.bastore, 1) := by decide +kernel
theorem d_P_walkOn_128 : decode b_P_walkOn 128 = .ok (.return_, 1) := by decide +kernel
theorem d_P_code_0 : decode b_P_code 0 = .ok (.iconst 0, 1) := by decide +kernel
theorem d_P_code_1 : decode b_P_code 1 = .ok (.istore_n 2, 1) := by decide +kernel
theorem d_P_code_2 : decode b_P_code 2 = .ok (.lconst 0, 1) := by decide +kernel
theorem d_P_code_3 : decode b_P_code 3 = .ok (.lstore_n 3, 1) := by decide +kernel
theorem d_P_code_4 : decode b_P_code 4 = .ok (.iconst 0, 1) := by decide +kernel
theorem d_P_code_5 : decode b_P_code 5 = .ok (.istore 5, 2) := by decide +kernel
theorem d_P_code_7 : decode b_P_code 7 = .ok (.iload 5, 2) := by decide +kernel
theorem d_P_code_9 : decode b_P_code 9 = .ok (.iload_n 1, 1) := by decide +kernel
theorem d_P_code_10 : decode b_P_code 10 = .ok (.if_icmp .ge 42, 3) := by decide +kernel
theorem d_P_code_13 : decode b_P_code 13 = .ok (.iload_n 2, 1) := by decide +kernel
theorem d_P_code_14 : decode b_P_code 14 = .ok (.aload_n 0, 1) := by decide +kernel
theorem d_P_code_15 : decode b_P_code 15 = .ok (.getfield 19, 3) := by decide +kernel
theorem d_P_code_18 : decode b_P_code 18 = .ok (.getfield 63, 3) := by decide +kernel
theorem d_P_code_21 : decode b_P_code 21 = .ok (.aload_n 0, 1) := by decide +kernel
theorem d_P_code_22 : decode b_P_code 22 = .ok (.getfield 15, 3) := by decide +kernel
theorem d_P_code_25 : decode b_P_code 25 = .ok (.iload 5, 2) := by decide +kernel
theorem d_P_code_27 : decode b_P_code 27 = .ok (.iaload, 1) := by decide +kernel
theorem d_P_code_28 : decode b_P_code 28 = .ok (.iaload, 1) := by decide +kernel
theorem d_P_code_29 : decode b_P_code 29 = .ok (.iadd, 1) := by decide +kernel
theorem d_P_code_30 : decode b_P_code 30 = .ok (.istore_n 2, 1) := by decide +kernel
theorem d_P_code_31 : decode b_P_code 31 = .ok (.lload_n 3, 1) := by decide +kernel
theorem d_P_code_32 : decode b_P_code 32 = .ok (.aload_n 0, 1) := by decide +kernel
theorem d_P_code_33 : decode b_P_code 33 = .ok (.getfield 15, 3) := by decide +kernel
theorem d_P_code_36 : decode b_P_code 36 = .ok (.iload 5, 2) := by decide +kernel
theorem d_P_code_38 : decode b_P_code 38 = .ok (.iaload, 1) := by decide +kernel
theorem d_P_code_39 : decode b_P_code 39 = .ok (.iload 5, 2) := by decide +kernel
theorem d_P_code_41 : decode b_P_code 41 = .ok (.invokestatic 66, 3) := by decide +kernel
theorem d_P_code_44 : decode b_P_code 44 = .ok (.lor, 1) := by decide +kernel
theorem d_P_code_45 : decode b_P_code 45 = .ok (.lstore_n 3, 1) := by decide +kernel
theorem d_P_code_46 : decode b_P_code 46 = .ok (.iinc 5 1, 3) := by decide +kernel
theorem d_P_code_49 : decode b_P_code 49 = .ok (.goto (-42), 3) := by decide +kernel
theorem d_P_code_52 : decode b_P_code 52 = .ok (.iload_n 2, 1) := by decide +kernel
theorem d_P_code_53 : decode b_P_code 53 = .ok (.iload_n 1, 1) := by decide +kernel
theorem d_P_code_54 : decode b_P_code 54 = .ok (.invokestatic 72, 3) := by decide +kernel
theorem d_P_code_57 : decode b_P_code 57 = .ok (.lload_n 3, 1) := by decide +kernel
theorem d_P_code_58 : decode b_P_code 58 = .ok (.lor, 1) := by decide +kernel
theorem d_P_code_59 : decode b_P_code 59 = .ok (.lreturn, 1) := by decide +kernel
theorem d_H_init_0 : decode b_H_init 0 = .ok (.aload_n 0, 1) := by decide +kernel
theorem d_H_init_1 : decode b_H_init 1 = .ok (.invokespecial 3, 3) := by decide +kernel
theorem d_H_init_4 : decode b_H_init 4 = .ok (.aload_n 0, 1) := by decide +kernel
theorem d_H_init_5 : decode b_H_init 5 = .ok (.sipush 1458, 3) := by decide +kernel
theorem d_H_init_8 : decode b_H_init 8 = .ok (.newarray .long, 2) := by decide +kernel
theorem d_H_init_10 : decode b_H_init 10 = .ok (.putfield 9, 3) := by decide +kernel
theorem d_H_init_13 : decode b_H_init 13 = .ok (.return_, 1) := by decide +kernel
theorem d_H_empty_0 : decode b_H_empty 0 = .ok (.aload_n 0, 1) := by decide +kernel
theorem d_H_empty_1 : decode b_H_empty 1 = .ok (.iconst 0, 1) := by decide +kernel
theorem d_H_empty_2 : decode b_H_empty 2 = .ok (.putfield 15, 3) := by decide +kernel
theorem d_H_empty_5 : decode b_H_empty 5 = .ok (.return_, 1) := by decide +kernel
theorem d_H_add_0 : decode b_H_add 0 = .ok (.aload_n 0, 1) := by decide +kernel
theorem d_H_add_1 : decode b_H_add 1 = .ok (.getfield 15, 3) := by decide +kernel
theorem d_H_add_4 : decode b_H_add 4 = .ok (.sipush 1458, 3) := by decide +kernel
theorem d_H_add_7 : decode b_H_add 7 = .ok (.if_icmp .lt 4, 3) := by decide +kernel
theorem d_H_add_10 : decode b_H_add 10 = .ok (.return_, 1) := by decide +kernel
theorem d_H_add_11 : decode b_H_add 11 = .ok (.aload_n 0, 1) := by decide +kernel
theorem d_H_add_12 : decode b_H_add 12 = .ok (.getfield 15, 3) := by decide +kernel
theorem d_H_add_15 : decode b_H_add 15 = .ok (.istore_n 3, 1) := by decide +kernel
theorem d_H_add_16 : decode b_H_add 16 = .ok (.aload_n 0, 1) := by decide +kernel
theorem d_H_add_17 : decode b_H_add 17 = .ok (.dup, 1) := by decide +kernel
theorem d_H_add_18 : decode b_H_add 18 = .ok (.getfield 15, 3) := by decide +kernel
theorem d_H_add_21 : decode b_H_add 21 = .ok (.iconst 1, 1) := by decide +kernel
theorem d_H_add_22 : decode b_H_add 22 = .ok (.iadd, 1) := by decide +kernel
theorem d_H_add_23 : decode b_H_add 23 = .ok (.putfield 15, 3) := by decide +kernel
theorem d_H_add_26 : decode b_H_add 26 = .ok (.iload_n 3, 1) := by decide +kernel
theorem d_H_add_27 : decode b_H_add 27 = .ok (.ifCond .le 43, 3) := by decide +kernel
theorem d_H_add_30 : decode b_H_add 30 = .ok (.aload_n 0, 1) := by decide +kernel
theorem d_H_add_31 : decode b_H_add 31 = .ok (.getfield 9, 3) := by decide +kernel
theorem d_H_add_34 : decode b_H_add 34 = .ok (.iload_n 3, 1) := by decide +kernel
theorem d_H_add_35 : decode b_H_add 35 = .ok (.iconst 1, 1) := by decide +kernel
theorem d_H_add_36 : decode b_H_add 36 = .ok (.isub, 1) := by decide +kernel
theorem d_H_add_37 : decode b_H_add 37 = .ok (.iconst 2, 1) := by decide +kernel
theorem d_H_add_38 : decode b_H_add 38 = .ok (.idiv, 1) := by decide +kernel
theorem d_H_add_39 : decode b_H_add 39 = .ok (.laload, 1) := by decide +kernel
theorem d_H_add_40 : decode b_H_add 40 = .ok (.lload_n 1, 1) := by decide +kernel
theorem d_H_add_41 : decode b_H_add 41 = .ok (.lcmp, 1) := by decide +kernel
theorem d_H_add_42 : decode b_H_add 42 = .ok (.ifCond .le 28, 3) := by decide +kernel
theorem d_H_add_45 : decode b_H_add 45 = .ok (.aload_n 0, 1) := by decide +kernel
theorem d_H_add_46 : decode b_H_add 46 = .ok (.getfield 9, 3) := by decide +kernel
theorem d_H_add_49 : decode b_H_add 49 = .ok (.iload_n 3, 1) := by decide +kernel
theorem d_H_add_50 : decode b_H_add 50 = .ok (.aload_n 0, 1) := by decide +kernel
theorem d_H_add_51 : decode b_H_add 51 = .ok (.getfield 9, 3) := by decide +kernel
theorem d_H_add_54 : decode b_H_add 54 = .ok (.iload_n 3, 1) := by decide +kernel
theorem d_H_add_55 : decode b_H_add 55 = .ok (.iconst 1, 1) := by decide +kernel
theorem d_H_add_56 : decode b_H_add 56 = .ok (.isub, 1) := by decide +kernel
theorem d_H_add_57 : decode b_H_add 57 = .ok (.iconst 2, 1) := by decide +kernel
theorem d_H_add_58 : decode b_H_add 58 = .ok (.idiv, 1) := by decide +kernel
theorem d_H_add_59 : decode b_H_add 59 = .ok (.laload, 1) := by decide +kernel
theorem d_H_add_60 : decode b_H_add 60 = .ok (.lastore, 1) := by decide +kernel
theorem d_H_add_61 : decode b_H_add 61 = .ok (.iload_n 3, 1) := by decide +kernel
theorem d_H_add_62 : decode b_H_add 62 = .ok (.iconst 1, 1) := by decide +kernel
theorem d_H_add_63 : decode b_H_add 63 = .ok (.isub, 1) := by decide +kernel
theorem d_H_add_64 : decode b_H_add 64 = .ok (.iconst 2, 1) := by decide +kernel
theorem d_H_add_65 : decode b_H_add 65 = .ok (.idiv, 1) := by decide +kernel
theorem d_H_add_66 : decode b_H_add 66 = .ok (.istore_n 3, 1) := by decide +kernel
theorem d_H_add_67 : decode b_H_add 67 = .ok (.goto (-41), 3) := by decide +kernel
theorem d_H_add_70 : decode b_H_add 70 = .ok (.aload_n 0, 1) := by decide +kernel
theorem d_H_add_71 : decode b_H_add 71 = .ok (.getfield 9, 3) := by decide +kernel
theorem d_H_add_74 : decode b_H_add 74 = .ok (.iload_n 3, 1) := by decide +kernel
theorem d_H_add_75 : decode b_H_add 75 = .ok (.lload_n 1, 1) := by decide +kernel
theorem d_H_add_76 : decode b_H_add 76 = .ok (.lastore, 1) := by decide +kernel
theorem d_H_add_77 : decode b_H_add 77 = .ok (.return_, 1) := by decide +kernel
theorem d_H_takeFirst_0 : decode b_H_takeFirst 0 = .ok (.aload_n 0, 1) := by decide +kernel
theorem d_H_takeFirst_1 : decode b_H_takeFirst 1 = .ok (.getfield 15, 3) := by decide +kernel
theorem d_H_takeFirst_4 : decode b_H_takeFirst 4 = .ok (.ifCond .gt 7, 3) := by decide +kernel
theorem d_H_takeFirst_7 : decode b_H_takeFirst 7 = .ok (.ldc2_w 19, 3) := by decide +kernel
theorem d_H_takeFirst_10 : decode b_H_takeFirst 10 = .ok (.lreturn, 1) := by decide +kernel
theorem d_H_takeFirst_11 : decode b_H_takeFirst 11 = .ok (.aload_n 0, 1) := by decide +kernel
theorem d_H_takeFirst_12 : decode b_H_takeFirst 12 = .ok (.getfield 9, 3) := by decide +kernel
theorem d_H_takeFirst_15 : decode b_H_takeFirst 15 = .ok (.iconst 0, 1) := by decide +kernel
theorem d_H_takeFirst_16 : decode b_H_takeFirst 16 = .ok (.laload, 1) := by decide +kernel
theorem d_H_takeFirst_17 : decode b_H_takeFirst 17 = .ok (.lstore_n 1, 1) := by decide +kernel
theorem d_H_takeFirst_18 : decode b_H_takeFirst 18 = .ok (.aload_n 0, 1) := by decide +kernel
theorem d_H_takeFirst_19 : decode b_H_takeFirst 19 = .ok (.dup, 1) := by decide +kernel
theorem d_H_takeFirst_20 : decode b_H_takeFirst 20 = .ok (.getfield 15, 3) := by decide +kernel
theorem d_H_takeFirst_23 : decode b_H_takeFirst 23 = .ok (.iconst 1, 1) := by decide +kernel
theorem d_H_takeFirst_24 : decode b_H_takeFirst 24 = .ok (.isub, 1) := by decide +kernel
theorem d_H_takeFirst_25 : decode b_H_takeFirst 25 = .ok (.putfield 15, 3) := by decide +kernel
theorem d_H_takeFirst_28 : decode b_H_takeFirst 28 = .ok (.aload_n 0, 1) := by decide +kernel
theorem d_H_takeFirst_29 : decode b_H_takeFirst 29 = .ok (.aload_n 0, 1) := by decide +kernel
theorem d_H_takeFirst_30 : decode b_H_takeFirst 30 = .ok (.getfield 9, 3) := by decide +kernel
theorem d_H_takeFirst_33 : decode b_H_takeFirst 33 = .ok (.aload_n 0, 1) := by decide +kernel
theorem d_H_takeFirst_34 : decode b_H_takeFirst 34 = .ok (.getfield 15, 3) := by decide +kernel
theorem d_H_takeFirst_37 : decode b_H_takeFirst 37 = .ok (.laload, 1) := by decide +kernel
theorem d_H_takeFirst_38 : decode b_H_takeFirst 38 = .ok (.invokevirtual 21, 3) := by decide +kernel
theorem d_H_takeFirst_41 : decode b_H_takeFirst 41 = .ok (.lload_n 1, 1) := by decide +kernel
theorem d_H_takeFirst_42 : decode b_H_takeFirst 42 = .ok (.lreturn, 1) := by decide +kernel
theorem d_H_sinkFromTop_0 : decode b_H_sinkFromTop 0 = .ok (.iconst 0, 1) := by decide +kernel
theorem d_H_sinkFromTop_1 : decode b_H_sinkFromTop 1 = .ok (.istore_n 3, 1) := by decide +kernel
theorem d_H_sinkFromTop_2 : decode b_H_sinkFromTop 2 = .ok (.iload_n 3, 1) := by decide +kernel
theorem d_H_sinkFromTop_3 : decode b_H_sinkFromTop 3 = .ok (.aload_n 0, 1) := by decide +kernel
theorem d_H_sinkFromTop_4 : decode b_H_sinkFromTop 4 = .ok (.getfield 15, 3) := by decide +kernel
theorem d_H_sinkFromTop_7 : decode b_H_sinkFromTop 7 = .ok (.if_icmp .ge 53, 3) := by decide +kernel
theorem d_H_sinkFromTop_10 : decode b_H_sinkFromTop 10 = .ok (.aload_n 0, 1) := by decide +kernel
theorem d_H_sinkFromTop_11 : decode b_H_sinkFromTop 11 = .ok (.iload_n 3, 1) := by decide +kernel
theorem d_H_sinkFromTop_12 : decode b_H_sinkFromTop 12 = .ok (.invokevirtual 25, 3) := by decide +kernel
theorem d_H_sinkFromTop_15 : decode b_H_sinkFromTop 15 = .ok (.istore 4, 2) := by decide +kernel
theorem d_H_sinkFromTop_17 : decode b_H_sinkFromTop 17 = .ok (.iload 4, 2) := by decide +kernel
theorem d_H_sinkFromTop_19 : decode b_H_sinkFromTop 19 = .ok (.aload_n 0, 1) := by decide +kernel
theorem d_H_sinkFromTop_20 : decode b_H_sinkFromTop 20 = .ok (.getfield 15, 3) := by decide +kernel
theorem d_H_sinkFromTop_23 : decode b_H_sinkFromTop 23 = .ok (.if_icmp .ge 37, 3) := by decide +kernel
theorem d_H_sinkFromTop_26 : decode b_H_sinkFromTop 26 = .ok (.aload_n 0, 1) := by decide +kernel
theorem d_H_sinkFromTop_27 : decode b_H_sinkFromTop 27 = .ok (.getfield 9, 3) := by decide +kernel
theorem d_H_sinkFromTop_30 : decode b_H_sinkFromTop 30 = .ok (.iload 4, 2) := by decide +kernel
theorem d_H_sinkFromTop_32 : decode b_H_sinkFromTop 32 = .ok (.laload, 1) := by decide +kernel
theorem d_H_sinkFromTop_33 : decode b_H_sinkFromTop 33 = .ok (.lload_n 1, 1) := by decide +kernel
theorem d_H_sinkFromTop_34 : decode b_H_sinkFromTop 34 = .ok (.lcmp, 1) := by decide +kernel
theorem d_H_sinkFromTop_35 : decode b_H_sinkFromTop 35 = .ok (.ifCond .lt 6, 3) := by decide +kernel
theorem d_H_sinkFromTop_38 : decode b_H_sinkFromTop 38 = .ok (.goto 22, 3) := by decide +kernel
theorem d_H_sinkFromTop_41 : decode b_H_sinkFromTop 41 = .ok (.aload_n 0, 1) := by decide +kernel
theorem d_H_sinkFromTop_42 : decode b_H_sinkFromTop 42 = .ok (.getfield 9, 3) := by decide +kernel
theorem d_H_sinkFromTop_45 : decode b_H_sinkFromTop 45 = .ok (.iload_n 3, 1) := by decide +kernel
theorem d_H_sinkFromTop_46 : decode b_H_sinkFromTop 46 = .ok (.aload_n 0, 1) := by decide +kernel
theorem d_H_sinkFromTop_47 : decode b_H_sinkFromTop 47 = .ok (.getfield 9, 3) := by decide +kernel
theorem d_H_sinkFromTop_50 : decode b_H_sinkFromTop 50 = .ok (.iload 4, 2) := by decide +kernel
theorem d_H_sinkFromTop_52 : decode b_H_sinkFromTop 52 = .ok (.laload, 1) := by decide +kernel
theorem d_H_sinkFromTop_53 : decode b_H_sinkFromTop 53 = .ok (.lastore, 1) := by decide +kernel
theorem d_H_sinkFromTop_54 : decode b_H_sinkFromTop 54 = .ok (.iload 4, 2) := by decide +kernel
theorem d_H_sinkFromTop_56 : decode b_H_sinkFromTop 56 = .ok (.istore_n 3, 1) := by decide +kernel
theorem d_H_sinkFromTop_57 : decode b_H_sinkFromTop 57 = .ok (.goto (-55), 3) := by decide +kernel
theorem d_H_sinkFromTop_60 : decode b_H_sinkFromTop 60 = .ok (.aload_n 0, 1) := by decide +kernel
theorem d_H_sinkFromTop_61 : decode b_H_sinkFromTop 61 = .ok (.getfield 9, 3) := by decide +kernel
theorem d_H_sinkFromTop_64 : decode b_H_sinkFromTop 64 = .ok (.iload_n 3, 1) := by decide +kernel
theorem d_H_sinkFromTop_65 : decode b_H_sinkFromTop 65 = .ok (.lload_n 1, 1) := by decide +kernel
theorem d_H_sinkFromTop_66 : decode b_H_sinkFromTop 66 = .ok (.lastore, 1) := by decide +kernel
theorem d_H_sinkFromTop_67 : decode b_H_sinkFromTop 67 = .ok (.return_, 1) := by decide +kernel
theorem d_H_lesserChild_0 : decode b_H_lesserChild 0 = .ok (.iconst 2, 1) := by decide +kernel
theorem d_H_lesserChild_1 : decode b_H_lesserChild 1 = .ok (.iload_n 1, 1) := by decide +kernel
theorem d_H_lesserChild_2 : decode b_H_lesserChild 2 = .ok (.imul, 1) := by decide +kernel
theorem d_H_lesserChild_3 : decode b_H_lesserChild 3 = .ok (.iconst 1, 1) := by decide +kernel
theorem d_H_lesserChild_4 : decode b_H_lesserChild 4 = .ok (.iadd, 1) := by decide +kernel
theorem d_H_lesserChild_5 : decode b_H_lesserChild 5 = .ok (.istore_n 2, 1) := by decide +kernel
theorem d_H_lesserChild_6 : decode b_H_lesserChild 6 = .ok (.iload_n 2, 1) := by decide +kernel
theorem d_H_lesserChild_7 : decode b_H_lesserChild 7 = .ok (.iconst 1, 1) := by decide +kernel
theorem d_H_lesserChild_8 : decode b_H_lesserChild 8 = .ok (.iadd, 1) := by decide +kernel
theorem d_H_lesserChild_9 : decode b_H_lesserChild 9 = .ok (.istore_n 3, 1) := by decide +kernel
theorem d_H_lesserChild_10 : decode b_H_lesserChild 10 = .ok (.iload_n 3, 1) := by decide +kernel
theorem d_H_lesserChild_11 : decode b_H_lesserChild 11 = .ok (.aload_n 0, 1) := by decide +kernel
theorem d_H_lesserChild_12 : decode b_H_lesserChild 12 = .ok (.getfield 15, 3) := by decide +kernel
theorem d_H_lesserChild_15 : decode b_H_lesserChild 15 = .ok (.if_icmp .ge 23, 3) := by decide +kernel
theorem d_H_lesserChild_18 : decode b_H_lesserChild 18 = .ok (.aload_n 0, 1) := by decide +kernel
theorem d_H_lesserChild_19 : decode b_H_lesserChild 19 = .ok (.getfield 9, 3) := by decide +kernel
theorem d_H_lesserChild_22 : decode b_H_lesserChild 22 = .ok (.iload_n 3, 1) := by decide +kernel
theorem d_H_lesserChild_23 : decode b_H_lesserChild 23 = .ok (.laload, 1) := by decide +kernel
theorem d_H_lesserChild_24 : decode b_H_lesserChild 24 = .ok (.aload_n 0, 1) := by decide +kernel
theorem d_H_lesserChild_25 : decode b_H_lesserChild 25 = .ok (.getfield 9, 3) := by decide +kernel
theorem d_H_lesserChild_28 : decode b_H_lesserChild 28 = .ok (.iload_n 2, 1) := by decide +kernel
theorem d_H_lesserChild_29 : decode b_H_lesserChild 29 = .ok (.laload, 1) := by decide +kernel
theorem d_H_lesserChild_30 : decode b_H_lesserChild 30 = .ok (.lcmp, 1) := by decide +kernel
theorem d_H_lesserChild_31 : decode b_H_lesserChild 31 = .ok (.ifCond .ge 7, 3) := by decide +kernel
theorem d_H_lesserChild_34 : decode b_H_lesserChild 34 = .ok (.iload_n 3, 1) := by decide +kernel
theorem d_H_lesserChild_35 : decode b_H_lesserChild 35 = .ok (.goto 4, 3) := by decide +kernel
theorem d_H_lesserChild_38 : decode b_H_lesserChild 38 = .ok (.iload_n 2, 1) := by decide +kernel
theorem d_H_lesserChild_39 : decode b_H_lesserChild 39 = .ok (.ireturn, 1) := by decide +kernel
theorem d_T_init_0 : decode b_T_init 0 = .ok (.aload_n 0, 1) := by decide +kernel
theorem d_T_init_1 : decode b_T_init 1 = .ok (.invokespecial 3, 3) := by decide +kernel
theorem d_T_init_4 : decode b_T_init 4 = .ok (.aload_n 0, 1) := by decide +kernel
theorem d_T_init_5 : decode b_T_init 5 = .ok (.bipush 7, 2) := by decide +kernel
theorem d_T_init_7 : decode b_T_init 7 = .ok (.newarray .int, 2) := by decide +kernel
theorem d_T_init_9 : decode b_T_init 9 = .ok (.putfield 9, 3) := by decide +kernel
theorem d_T_init_12 : decode b_T_init 12 = .ok (.return_, 1) := by decide +kernel
theorem d_T_empty_0 : decode b_T_empty 0 = .ok (.aload_n 0, 1) := by decide +kernel
theorem d_T_empty_1 : decode b_T_empty 1 = .ok (.iconst 0, 1) := by decide +kernel
theorem d_T_empty_2 : decode b_T_empty 2 = .ok (.putfield 15, 3) := by decide +kernel
theorem d_T_empty_5 : decode b_T_empty 5 = .ok (.return_, 1) := by decide +kernel
theorem d_T_tell_0 : decode b_T_tell 0 = .ok (.aload_n 0, 1) := by decide +kernel
theorem d_T_tell_1 : decode b_T_tell 1 = .ok (.lload_n 2, 1) := by decide +kernel
theorem d_T_tell_2 : decode b_T_tell 2 = .ok (.invokestatic 19, 3) := by decide +kernel
theorem d_T_tell_5 : decode b_T_tell 5 = .ok (.putfield 15, 3) := by decide +kernel
theorem d_T_tell_8 : decode b_T_tell 8 = .ok (.aload_n 0, 1) := by decide +kernel
theorem d_T_tell_9 : decode b_T_tell 9 = .ok (.lload_n 2, 1) := by decide +kernel
theorem d_T_tell_10 : decode b_T_tell 10 = .ok (.invokestatic 25, 3) := by decide +kernel
theorem d_T_tell_13 : decode b_T_tell 13 = .ok (.putfield 28, 3) := by decide +kernel
theorem d_T_tell_16 : decode b_T_tell 16 = .ok (.aload_n 0, 1) := by decide +kernel
theorem d_T_tell_17 : decode b_T_tell 17 = .ok (.aload_n 1, 1) := by decide +kernel
theorem d_T_tell_18 : decode b_T_tell 18 = .ok (.lload_n 2, 1) := by decide +kernel
theorem d_T_tell_19 : decode b_T_tell 19 = .ok (.invokevirtual 31, 3) := by decide +kernel
theorem d_T_tell_22 : decode b_T_tell 22 = .ok (.putfield 36, 3) := by decide +kernel
theorem d_T_tell_25 : decode b_T_tell 25 = .ok (.iconst 0, 1) := by decide +kernel
theorem d_T_tell_26 : decode b_T_tell 26 = .ok (.istore 4, 2) := by decide +kernel
theorem d_T_tell_28 : decode b_T_tell 28 = .ok (.iload 4, 2) := by decide +kernel
theorem d_T_tell_30 : decode b_T_tell 30 = .ok (.aload_n 0, 1) := by decide +kernel
theorem d_T_tell_31 : decode b_T_tell 31 = .ok (.getfield 15, 3) := by decide +kernel
theorem d_T_tell_34 : decode b_T_tell 34 = .ok (.if_icmp .ge 22, 3) := by decide +kernel
theorem d_T_tell_37 : decode b_T_tell 37 = .ok (.aload_n 0, 1) := by decide +kernel
theorem d_T_tell_38 : decode b_T_tell 38 = .ok (.getfield 9, 3) := by decide +kernel
theorem d_T_tell_41 : decode b_T_tell 41 = .ok (.iload 4, 2) := by decide +kernel
theorem d_T_tell_43 : decode b_T_tell 43 = .ok (.lload_n 2, 1) := by decide +kernel
theorem d_T_tell_44 : decode b_T_tell 44 = .ok (.iload 4, 2) := by decide +kernel
theorem d_T_tell_46 : decode b_T_tell 46 = .ok (.invokestatic 39, 3) := by decide +kernel
theorem d_T_tell_49 : decode b_T_tell 49 = .ok (.iastore, 1) := by decide +kernel
theorem d_T_tell_50 : decode b_T_tell 50 = .ok (.iinc 4 1, 3) := by decide +kernel
theorem d_T_tell_53 : decode b_T_tell 53 = .ok (.goto (-25), 3) := by decide +kernel
theorem d_T_tell_56 : decode b_T_tell 56 = .ok (.aload_n 0, 1) := by decide +kernel
theorem d_T_tell_57 : decode b_T_tell 57 = .ok (.getfield 15, 3) := by decide +kernel
theorem d_T_tell_60 : decode b_T_tell 60 = .ok (.ireturn, 1) := by decide +kernel
theorem d_J_fill_0 : decode b_J_fill 0 = .ok (.iconst 0, 1) := by decide +kernel
theorem d_J_fill_1 : decode b_J_fill 1 = .ok (.istore_n 2, 1) := by decide +kernel
theorem d_J_fill_2 : decode b_J_fill 2 = .ok (.aload_n 0, 1) := by decide +kernel
theorem d_J_fill_3 : decode b_J_fill 3 = .ok (.arraylength, 1) := by decide +kernel
theorem d_J_fill_4 : decode b_J_fill 4 = .ok (.istore_n 3, 1) := by decide +kernel
theorem d_J_fill_5 : decode b_J_fill 5 = .ok (.iload_n 2, 1) := by decide +kernel
theorem d_J_fill_6 : decode b_J_fill 6 = .ok (.iload_n 3, 1) := by decide +kernel
theorem d_J_fill_7 : decode b_J_fill 7 = .ok (.if_icmp .ge 13, 3) := by decide +kernel
theorem d_J_fill_10 : decode b_J_fill 10 = .ok (.aload_n 0, 1) := by decide +kernel
theorem d_J_fill_11 : decode b_J_fill 11 = .ok (.iload_n 2, 1) := by decide +kernel
theorem d_J_fill_12 : decode b_J_fill 12 = .ok (.iload_n 1, 1) := by decide +kernel
theorem d_J_fill_13 : decode b_J_fill 13 = .ok (.iastore, 1) := by decide +kernel
theorem d_J_fill_14 : decode b_J_fill 14 = .ok (.iinc 2 1, 3) := by decide +kernel
theorem d_J_fill_17 : decode b_J_fill 17 = .ok (.goto (-12), 3) := by decide +kernel
theorem d_J_fill_20 : decode b_J_fill 20 = .ok (.return_, 1) := by decide +kernel
end
section
theorem d_M_init_0 : decode b_M_init 0 = .ok (.aload_n 0, 1) := by decide +kernel
theorem d_M_init_1 : decode b_M_init 1 = .ok (.invokespecial 1, 3) := by decide +kernel
theorem d_M_init_4 : decode b_M_init 4 = .ok (.aload_n 0, 1) := by decide +kernel
theorem d_M_init_5 : decode b_M_init 5 = .ok (.bipush 20, 2) := by decide +kernel
theorem d_M_init_7 : decode b_M_init 7 = .ok (.newarray .int, 2) := by decide +kernel
theorem d_M_init_9 : decode b_M_init 9 = .ok (.putfield 7, 3) := by decide +kernel
theorem d_M_init_12 : decode b_M_init 12 = .ok (.aload_n 0, 1) := by decide +kernel
theorem d_M_init_13 : decode b_M_init 13 = .ok (.bipush 20, 2) := by decide +kernel
theorem d_M_init_15 : decode b_M_init 15 = .ok (.newarray .int, 2) := by decide +kernel
theorem d_M_init_17 : decode b_M_init 17 = .ok (.putfield 13, 3) := by decide +kernel
theorem d_M_init_20 : decode b_M_init 20 = .ok (.aload_n 0, 1) := by decide +kernel
theorem d_M_init_21 : decode b_M_init 21 = .ok (.bipush 20, 2) := by decide +kernel
theorem d_M_init_23 : decode b_M_init 23 = .ok (.newarray .int, 2) := by decide +kernel
theorem d_M_init_25 : decode b_M_init 25 = .ok (.putfield 16, 3) := by decide +kernel
theorem d_M_init_28 : decode b_M_init 28 = .ok (.aload_n 0, 1) := by decide +kernel
theorem d_M_init_29 : decode b_M_init 29 = .ok (.bipush 20, 2) := by decide +kernel
theorem d_M_init_31 : decode b_M_init 31 = .ok (.newarray .int, 2) := by decide +kernel
theorem d_M_init_33 : decode b_M_init 33 = .ok (.putfield 19, 3) := by decide +kernel
theorem d_M_init_36 : decode b_M_init 36 = .ok (.aload_n 0, 1) := by decide +kernel
theorem d_M_init_37 : decode b_M_init 37 = .ok (.bipush 20, 2) := by decide +kernel
theorem d_M_init_39 : decode b_M_init 39 = .ok (.newarray .boolean, 2) := by decide +kernel
theorem d_M_init_41 : decode b_M_init 41 = .ok (.putfield 22, 3) := by decide +kernel
theorem d_M_init_44 : decode b_M_init 44 = .ok (.aload_n 0, 1) := by decide +kernel
theorem d_M_init_45 : decode b_M_init 45 = .ok (.sipush 4000, 3) := by decide +kernel
theorem d_M_init_48 : decode b_M_init 48 = .ok (.newarray .int, 2) := by decide +kernel
theorem d_M_init_50 : decode b_M_init 50 = .ok (.putfield 26, 3) := by decide +kernel
theorem d_M_init_53 : decode b_M_init 53 = .ok (.aload_n 0, 1) := by decide +kernel
theorem d_M_init_54 : decode b_M_init 54 = .ok (.sipush 4000, 3) := by decide +kernel
theorem d_M_init_57 : decode b_M_init 57 = .ok (.newarray .int, 2) := by decide +kernel
theorem d_M_init_59 : decode b_M_init 59 = .ok (.putfield 29, 3) := by decide +kernel
theorem d_M_init_62 : decode b_M_init 62 = .ok (.aload_n 0, 1) := by decide +kernel
theorem d_M_init_63 : decode b_M_init 63 = .ok (.sipush 4000, 3) := by decide +kernel
theorem d_M_init_66 : decode b_M_init 66 = .ok (.newarray .long, 2) := by decide +kernel
theorem d_M_init_68 : decode b_M_init 68 = .ok (.putfield 32, 3) := by decide +kernel
theorem d_M_init_71 : decode b_M_init 71 = .ok (.aload_n 0, 1) := by decide +kernel
theorem d_M_init_72 : decode b_M_init 72 = .ok (.sipush 4000, 3) := by decide +kernel
theorem d_M_init_75 : decode b_M_init 75 = .ok (.newarray .int, 2) := by decide +kernel
theorem d_M_init_77 : decode b_M_init 77 = .ok (.putfield 36, 3) := by decide +kernel
theorem d_M_init_80 : decode b_M_init 80 = .ok (.aload_n 0, 1) := by decide +kernel
theorem d_M_init_81 : decode b_M_init 81 = .ok (.sipush 4000, 3) := by decide +kernel
theorem d_M_init_84 : decode b_M_init 84 = .ok (.newarray .int, 2) := by decide +kernel
theorem d_M_init_86 : decode b_M_init 86 = .ok (.putfield 39, 3) := by decide +kernel
theorem d_M_init_89 : decode b_M_init 89 = .ok (.aload_n 0, 1) := by decide +kernel
theorem d_M_init_90 : decode b_M_init 90 = .ok (.sipush 4000, 3) := by decide +kernel
theorem d_M_init_93 : decode b_M_init 93 = .ok (.newarray .int, 2) := by decide +kernel
theorem d_M_init_95 : decode b_M_init 95 = .ok (.putfield 42, 3) := by decide +kernel
theorem d_M_init_98 : decode b_M_init 98 = .ok (.aload_n 0, 1) := by decide +kernel
theorem d_M_init_99 : decode b_M_init 99 = .ok (.sipush 4000, 3) := by decide +kernel
theorem d_M_init_102 : decode b_M_init 102 = .ok (.newarray .int, 2) := by decide +kernel
theorem d_M_init_104 : decode b_M_init 104 = .ok (.putfield 45, 3) := by decide +kernel
theorem d_M_init_107 : decode b_M_init 107 = .ok (.aload_n 0, 1) := by decide +kernel
theorem d_M_init_108 : decode b_M_init 108 = .ok (.sipush 4000, 3) := by decide +kernel
theorem d_M_init_111 : decode b_M_init 111 = .ok (.newarray .int, 2) := by decide +kernel
theorem d_M_init_113 : decode b_M_init 113 = .ok (.putfield 48, 3) := by decide +kernel
theorem d_M_init_116 : decode b_M_init 116 = .ok (.aload_n 0, 1) := by decide +kernel
theorem d_M_init_117 : decode b_M_init 117 = .ok (.bipush 8, 2) := by decide +kernel
theorem d_M_init_119 : decode b_M_init 119 = .ok (.newarray .int, 2) := by decide +kernel
theorem d_M_init_121 : decode b_M_init 121 = .ok (.putfield 51, 3) := by decide +kernel
theorem d_M_init_124 : decode b_M_init 124 = .ok (.aload_n 0, 1) := by decide +kernel
theorem d_M_init_125 : decode b_M_init 125 = .ok (.bipush 8, 2) := by decide +kernel
theorem d_M_init_127 : decode b_M_init 127 = .ok (.newarray .int, 2) := by decide +kernel
theorem d_M_init_129 : decode b_M_init 129 = .ok (.putfield 54, 3) := by decide +kernel
theorem d_M_init_132 : decode b_M_init 132 = .ok (.aload_n 0, 1) := by decide +kernel
theorem d_M_init_133 : decode b_M_init 133 = .ok (.bipush 6, 2) := by decide +kernel
theorem d_M_init_135 : decode b_M_init 135 = .ok (.newarray .int, 2) := by decide +kernel
theorem d_M_init_137 : decode b_M_init 137 = .ok (.putfield 57, 3) := by decide +kernel
theorem d_M_init_140 : decode b_M_init 140 = .ok (.aload_n 0, 1) := by decide +kernel
theorem d_M_init_141 : decode b_M_init 141 = .ok (.bipush 6, 2) := by decide +kernel
theorem d_M_init_143 : decode b_M_init 143 = .ok (.newarray .int, 2) := by decide +kernel
theorem d_M_init_145 : decode b_M_init 145 = .ok (.putfield 60, 3) := by decide +kernel
theorem d_M_init_148 : decode b_M_init 148 = .ok (.aload_n 0, 1) := by decide +kernel
theorem d_M_init_149 : decode b_M_init 149 = .ok (.bipush 6, 2) := by decide +kernel
theorem d_M_init_151 : decode b_M_init 151 = .ok (.newarray .int, 2) := by decide +kernel
theorem d_M_init_153 : decode b_M_init 153 = .ok (.putfield 63, 3) := by decide +kernel
theorem d_M_init_156 : decode b_M_init 156 = .ok (.aload_n 0, 1) := by decide +kernel
theorem d_M_init_157 : decode b_M_init 157 = .ok (.bipush 6, 2) := by decide +kernel
theorem d_M_init_159 : decode b_M_init 159 = .ok (.newarray .int, 2) := by decide +kernel
theorem d_M_init_161 : decode b_M_init 161 = .ok (.putfield 66, 3) := by decide +kernel
theorem d_M_init_164 : decode b_M_init 164 = .ok (.aload_n 0, 1) := by decide +kernel
theorem d_M_init_165 : decode b_M_init 165 = .ok (.iconst 0, 1) := by decide +kernel
theorem d_M_init_166 : decode b_M_init 166 = .ok (.putfield 69, 3) := by decide +kernel
theorem d_M_init_169 : decode b_M_init 169 = .ok (.return_, 1) := by decide +kernel
theorem d_M_clear_0 : decode b_M_clear 0 = .ok (.aload_n 0, 1) := by decide +kernel
theorem d_M_clear_1 : decode b_M_clear 1 = .ok (.getfield 73, 3) := by decide +kernel
theorem d_M_clear_4 : decode b_M_clear 4 = .ok (.istore_n 1, 1) := by decide +kernel
theorem d_M_clear_5 : decode b_M_clear 5 = .ok (.aload_n 0, 1) := by decide +kernel
theorem d_M_clear_6 : decode b_M_clear 6 = .ok (.iconst 0, 1) := by decide +kernel
theorem d_M_clear_7 : decode b_M_clear 7 = .ok (.putfield 69, 3) := by decide +kernel
theorem d_M_clear_10 : decode b_M_clear 10 = .ok (.aload_n 0, 1) := by decide +kernel
theorem d_M_clear_11 : decode b_M_clear 11 = .ok (.iconst 0, 1) := by decide +kernel
theorem d_M_clear_12 : decode b_M_clear 12 = .ok (.putfield 73, 3) := by decide +kernel
theorem d_M_clear_15 : decode b_M_clear 15 = .ok (.aload_n 0, 1) := by decide +kernel
theorem d_M_clear_16 : decode b_M_clear 16 = .ok (.iconst 0, 1) := by decide +kernel
theorem d_M_clear_17 : decode b_M_clear 17 = .ok (.putfield 76, 3) := by decide +kernel
theorem d_M_clear_20 : decode b_M_clear 20 = .ok (.aload_n 0, 1) := by decide +kernel
theorem d_M_clear_21 : decode b_M_clear 21 = .ok (.iconst 0, 1) := by decide +kernel
theorem d_M_clear_22 : decode b_M_clear 22 = .ok (.putfield 80, 3) := by decide +kernel
theorem d_M_clear_25 : decode b_M_clear 25 = .ok (.iload_n 1, 1) := by decide +kernel
theorem d_M_clear_26 : decode b_M_clear 26 = .ok (.ireturn, 1) := by decide +kernel
theorem d_M_isIn_0 : decode b_M_isIn 0 = .ok (.iload_n 0, 1) := by decide +kernel
theorem d_M_isIn_1 : decode b_M_isIn 1 = .ok (.iload_n 1, 1) := by decide +kernel
theorem d_M_isIn_2 : decode b_M_isIn 2 = .ok (.if_icmp .lt 12, 3) := by decide +kernel
theorem d_M_isIn_5 : decode b_M_isIn 5 = .ok (.iload_n 0, 1) := by decide +kernel
theorem d_M_isIn_6 : decode b_M_isIn 6 = .ok (.iload_n 2, 1) := by decide +kernel
theorem d_M_isIn_7 : decode b_M_isIn 7 = .ok (.if_icmp .gt 7, 3) := by decide +kernel
theorem d_M_isIn_10 : decode b_M_isIn 10 = .ok (.iconst 1, 1) := by decide +kernel
theorem d_M_isIn_11 : decode b_M_isIn 11 = .ok (.goto 4, 3) := by decide +kernel
theorem d_M_isIn_14 : decode b_M_isIn 14 = .ok (.iconst 0, 1) := by decide +kernel
theorem d_M_isIn_15 : decode b_M_isIn 15 = .ok (.ireturn, 1) := by decide +kernel
theorem d_M_isNode_0 : decode b_M_isNode 0 = .ok (.iload_n 1, 1) := by decide +kernel
theorem d_M_isNode_1 : decode b_M_isNode 1 = .ok (.iconst 0, 1) := by decide +kernel
theorem d_M_isNode_2 : decode b_M_isNode 2 = .ok (.aload_n 0, 1) := by decide +kernel
theorem d_M_isNode_3 : decode b_M_isNode 3 = .ok (.getfield 69, 3) := by decide +kernel
theorem d_M_isNode_6 : decode b_M_isNode 6 = .ok (.iconst 1, 1) := by decide +kernel
theorem d_M_isNode_7 : decode b_M_isNode 7 = .ok (.isub, 1) := by decide +kernel
theorem d_M_isNode_8 : decode b_M_isNode 8 = .ok (.invokestatic 83, 3) := by decide +kernel
theorem d_M_isNode_11 : decode b_M_isNode 11 = .ok (.ireturn, 1) := by decide +kernel
theorem d_M_isArc_0 : decode b_M_isArc 0 = .ok (.iload_n 1, 1) := by decide +kernel
theorem d_M_isArc_1 : decode b_M_isArc 1 = .ok (.iconst 0, 1) := by decide +kernel
theorem d_M_isArc_2 : decode b_M_isArc 2 = .ok (.aload_n 0, 1) := by decide +kernel
theorem d_M_isArc_3 : decode b_M_isArc 3 = .ok (.getfield 73, 3) := by decide +kernel
theorem d_M_isArc_6 : decode b_M_isArc 6 = .ok (.iconst 1, 1) := by decide +kernel
theorem d_M_isArc_7 : decode b_M_isArc 7 = .ok (.isub, 1) := by decide +kernel
theorem d_M_isArc_8 : decode b_M_isArc 8 = .ok (.invokestatic 83, 3) := by decide +kernel
theorem d_M_isArc_11 : decode b_M_isArc 11 = .ok (.ireturn, 1) := by decide +kernel
theorem d_M_areTwo_0 : decode b_M_areTwo 0 = .ok (.aload_n 0, 1) := by decide +kernel
theorem d_M_areTwo_1 : decode b_M_areTwo 1 = .ok (.iload_n 1, 1) := by decide +kernel
theorem d_M_areTwo_2 : decode b_M_areTwo 2 = .ok (.invokevirtual 87, 3) := by decide +kernel
theorem d_M_areTwo_5 : decode b_M_areTwo 5 = .ok (.ifCond .eq 20, 3) := by decide +kernel
theorem d_M_areTwo_8 : decode b_M_areTwo 8 = .ok (.aload_n 0, 1) := by decide +kernel
theorem d_M_areTwo_9 : decode b_M_areTwo 9 = .ok (.iload_n 2, 1) := by decide +kernel
theorem d_M_areTwo_10 : decode b_M_areTwo 10 = .ok (.invokevirtual 87, 3) := by decide +kernel
theorem d_M_areTwo_13 : decode b_M_areTwo 13 = .ok (.ifCond .eq 12, 3) := by decide +kernel
theorem d_M_areTwo_16 : decode b_M_areTwo 16 = .ok (.iload_n 1, 1) := by decide +kernel
theorem d_M_areTwo_17 : decode b_M_areTwo 17 = .ok (.iload_n 2, 1) := by decide +kernel
theorem d_M_areTwo_18 : decode b_M_areTwo 18 = .ok (.if_icmp .eq 7, 3) := by decide +kernel
theorem d_M_areTwo_21 : decode b_M_areTwo 21 = .ok (.iconst 1, 1) := by decide +kernel
theorem d_M_areTwo_22 : decode b_M_areTwo 22 = .ok (.goto 4, 3) := by decide +kernel
theorem d_M_areTwo_25 : decode b_M_areTwo 25 = .ok (.iconst 0, 1) := by decide +kernel
theorem d_M_areTwo_26 : decode b_M_areTwo 26 = .ok (.ireturn, 1) := by decide +kernel
theorem d_M_node_0 : decode b_M_node 0 = .ok (.aload_n 0, 1) := by decide +kernel
theorem d_M_node_1 : decode b_M_node 1 = .ok (.getfield 69, 3) := by decide +kernel
theorem d_M_node_4 : decode b_M_node 4 = .ok (.bipush 8, 2) := by decide +kernel
theorem d_M_node_6 : decode b_M_node 6 = .ok (.if_icmp .ne 6, 3) := by decide +kernel
theorem d_M_node_9 : decode b_M_node 9 = .ok (.bipush (-3), 2) := by decide +kernel
theorem d_M_node_11 : decode b_M_node 11 = .ok (.ireturn, 1) := by decide +kernel
theorem d_M_node_12 : decode b_M_node 12 = .ok (.aload_n 0, 1) := by decide +kernel
theorem d_M_node_13 : decode b_M_node 13 = .ok (.dup, 1) := by decide +kernel
theorem d_M_node_14 : decode b_M_node 14 = .ok (.getfield 69, 3) := by decide +kernel
theorem d_M_node_17 : decode b_M_node 17 = .ok (.iconst 1, 1) := by decide +kernel
theorem d_M_node_18 : decode b_M_node 18 = .ok (.iadd, 1) := by decide +kernel
theorem d_M_node_19 : decode b_M_node 19 = .ok (.putfield 69, 3) := by decide +kernel
theorem d_M_node_22 : decode b_M_node 22 = .ok (.aload_n 0, 1) := by decide +kernel
theorem d_M_node_23 : decode b_M_node 23 = .ok (.getfield 69, 3) := by decide +kernel
theorem d_M_node_26 : decode b_M_node 26 = .ok (.iconst 1, 1) := by decide +kernel
theorem d_M_node_27 : decode b_M_node 27 = .ok (.isub, 1) := by decide +kernel
theorem d_M_node_28 : decode b_M_node 28 = .ok (.ireturn, 1) := by decide +kernel
theorem d_M_arc_0 : decode b_M_arc 0 = .ok (.aload_n 0, 1) := by decide +kernel
theorem d_M_arc_1 : decode b_M_arc 1 = .ok (.iload_n 1, 1) := by decide +kernel
theorem d_M_arc_2 : decode b_M_arc 2 = .ok (.iload_n 2, 1) := by decide +kernel
theorem d_M_arc_3 : decode b_M_arc 3 = .ok (.invokevirtual 91, 3) := by decide +kernel
theorem d_M_arc_6 : decode b_M_arc 6 = .ok (.ifCond .eq 26, 3) := by decide +kernel
theorem d_M_arc_9 : decode b_M_arc 9 = .ok (.iload_n 3, 1) := by decide +kernel
theorem d_M_arc_10 : decode b_M_arc 10 = .ok (.iconst 0, 1) := by decide +kernel
theorem d_M_arc_11 : decode b_M_arc 11 = .ok (.sipush 1000, 3) := by decide +kernel
theorem d_M_arc_14 : decode b_M_arc 14 = .ok (.invokestatic 83, 3) := by decide +kernel
theorem d_M_arc_17 : decode b_M_arc 17 = .ok (.ifCond .eq 15, 3) := by decide +kernel
theorem d_M_arc_20 : decode b_M_arc 20 = .ok (.iload 4, 2) := by decide +kernel
theorem d_M_arc_22 : decode b_M_arc 22 = .ok (.iconst 0, 1) := by decide +kernel
theorem d_M_arc_23 : decode b_M_arc 23 = .ok (.sipush 1000, 3) := by decide +kernel
theorem d_M_arc_26 : decode b_M_arc 26 = .ok (.invokestatic 83, 3) := by decide +kernel
theorem d_M_arc_29 : decode b_M_arc 29 = .ok (.ifCond .ne 6, 3) := by decide +kernel
theorem d_M_arc_32 : decode b_M_arc 32 = .ok (.bipush (-2), 2) := by decide +kernel
theorem d_M_arc_34 : decode b_M_arc 34 = .ok (.ireturn, 1) := by decide +kernel
theorem d_M_arc_35 : decode b_M_arc 35 = .ok (.aload_n 0, 1) := by decide +kernel
theorem d_M_arc_36 : decode b_M_arc 36 = .ok (.getfield 73, 3) := by decide +kernel
theorem d_M_arc_39 : decode b_M_arc 39 = .ok (.bipush 20, 2) := by decide +kernel
theorem d_M_arc_41 : decode b_M_arc 41 = .ok (.if_icmp .ne 6, 3) := by decide +kernel
theorem d_M_arc_44 : decode b_M_arc 44 = .ok (.bipush (-3), 2) := by decide +kernel
theorem d_M_arc_46 : decode b_M_arc 46 = .ok (.ireturn, 1) := by decide +kernel
theorem d_M_arc_47 : decode b_M_arc 47 = .ok (.aload_n 0, 1) := by decide +kernel
theorem d_M_arc_48 : decode b_M_arc 48 = .ok (.getfield 7, 3) := by decide +kernel
theorem d_M_arc_51 : decode b_M_arc 51 = .ok (.aload_n 0, 1) := by decide +kernel
theorem d_M_arc_52 : decode b_M_arc 52 = .ok (.getfield 73, 3) := by decide +kernel
theorem d_M_arc_55 : decode b_M_arc 55 = .ok (.iload_n 1, 1) := by decide +kernel
theorem d_M_arc_56 : decode b_M_arc 56 = .ok (.iastore, 1) := by decide +kernel
theorem d_M_arc_57 : decode b_M_arc 57 = .ok (.aload_n 0, 1) := by decide +kernel
theorem d_M_arc_58 : decode b_M_arc 58 = .ok (.getfield 13, 3) := by decide +kernel
theorem d_M_arc_61 : decode b_M_arc 61 = .ok (.aload_n 0, 1) := by decide +kernel
theorem d_M_arc_62 : decode b_M_arc 62 = .ok (.getfield 73, 3) := by decide +kernel
theorem d_M_arc_65 : decode b_M_arc 65 = .ok (.iload_n 2, 1) := by decide +kernel
theorem d_M_arc_66 : decode b_M_arc 66 = .ok (.iastore, 1) := by decide +kernel
theorem d_M_arc_67 : decode b_M_arc 67 = .ok (.aload_n 0, 1) := by decide +kernel
theorem d_M_arc_68 : decode b_M_arc 68 = .ok (.getfield 16, 3) := by decide +kernel
theorem d_M_arc_71 : decode b_M_arc 71 = .ok (.aload_n 0, 1) := by decide +kernel
theorem d_M_arc_72 : decode b_M_arc 72 = .ok (.getfield 73, 3) := by decide +kernel
theorem d_M_arc_75 : decode b_M_arc 75 = .ok (.iload_n 3, 1) := by decide +kernel
theorem d_M_arc_76 : decode b_M_arc 76 = .ok (.iastore, 1) := by decide +kernel
theorem d_M_arc_77 : decode b_M_arc 77 = .ok (.aload_n 0, 1) := by decide +kernel
theorem d_M_arc_78 : decode b_M_arc 78 = .ok (.getfield 19, 3) := by decide +kernel
theorem d_M_arc_81 : decode b_M_arc 81 = .ok (.aload_n 0, 1) := by decide +kernel
theorem d_M_arc_82 : decode b_M_arc 82 = .ok (.getfield 73, 3) := by decide +kernel
theorem d_M_arc_85 : decode b_M_arc 85 = .ok (.iload 4, 2) := by decide +kernel
theorem d_M_arc_87 : decode b_M_arc 87 = .ok (.iastore, 1) := by decide +kernel
theorem d_M_arc_88 : decode b_M_arc 88 = .ok (.aload_n 0, 1) := by decide +kernel
theorem d_M_arc_89 : decode b_M_arc 89 = .ok (.getfield 22, 3) := by decide +kernel
theorem d_M_arc_92 : decode b_M_arc 92 = .ok (.aload_n 0, 1) := by decide +kernel
theorem d_M_arc_93 : decode b_M_arc 93 = .ok (.getfield 73, 3) := by decide +kernel
theorem d_M_arc_96 : decode b_M_arc 96 = .ok (.iconst 0, 1) := by decide +kernel
theorem d_M_arc_97 : decode b_M_arc 97 = .ok (.bastore, 1) := by decide +kernel
theorem d_M_arc_98 : decode b_M_arc 98 = .ok (.aload_n 0, 1) := by decide +kernel
theorem d_M_arc_99 : decode b_M_arc 99 = .ok (.dup, 1) := by decide +kernel
theorem d_M_arc_100 : decode b_M_arc 100 = .ok (.getfield 73, 3) := by decide +kernel
theorem d_M_arc_103 : decode b_M_arc 103 = .ok (.iconst 1, 1) := by decide +kernel
theorem d_M_arc_104 : decode b_M_arc 104 = .ok (.iadd, 1) := by decide +kernel
theorem d_M_arc_105 : decode b_M_arc 105 = .ok (.putfield 73, 3) := by decide +kernel
theorem d_M_arc_108 : decode b_M_arc 108 = .ok (.aload_n 0, 1) := by decide +kernel
theorem d_M_arc_109 : decode b_M_arc 109 = .ok (.getfield 73, 3) := by decide +kernel
theorem d_M_arc_112 : decode b_M_arc 112 = .ok (.iconst 1, 1) := by decide +kernel
theorem d_M_arc_113 : decode b_M_arc 113 = .ok (.isub, 1) := by decide +kernel
theorem d_M_arc_114 : decode b_M_arc 114 = .ok (.ireturn, 1) := by decide +kernel
theorem d_M_change_0 : decode b_M_change 0 = .ok (.aload_n 0, 1) := by decide +kernel
theorem d_M_change_1 : decode b_M_change 1 = .ok (.iload_n 1, 1) := by decide +kernel
theorem d_M_change_2 : decode b_M_change 2 = .ok (.invokevirtual 95, 3) := by decide +kernel
theorem d_M_change_5 : decode b_M_change 5 = .ok (.ifCond .eq 25, 3) := by decide +kernel
theorem d_M_change_8 : decode b_M_change 8 = .ok (.iload_n 2, 1) := by decide +kernel
theorem d_M_change_9 : decode b_M_change 9 = .ok (.iconst 0, 1) := by decide +kernel
theorem d_M_change_10 : decode b_M_change 10 = .ok (.sipush 1000, 3) := by decide +kernel
theorem d_M_change_13 : decode b_M_change 13 = .ok (.invokestatic 83, 3) := by decide +kernel
theorem d_M_change_16 : decode b_M_change 16 = .ok (.ifCond .eq 14, 3) := by decide +kernel
theorem d_M_change_19 : decode b_M_change 19 = .ok (.iload_n 3, 1) := by decide +kernel
theorem d_M_change_20 : decode b_M_change 20 = .ok (.iconst 0, 1) := by decide +kernel
theorem d_M_change_21 : decode b_M_change 21 = .ok (.sipush 1000, 3) := by decide +kernel
theorem d_M_change_24 : decode b_M_change 24 = .ok (.invokestatic 83, 3) := by decide +kernel
theorem d_M_change_27 : decode b_M_change 27 = .ok (.ifCond .ne 6, 3) := by decide +kernel
theorem d_M_change_30 : decode b_M_change 30 = .ok (.bipush (-2), 2) := by decide +kernel
theorem d_M_change_32 : decode b_M_change 32 = .ok (.ireturn, 1) := by decide +kernel
theorem d_M_change_33 : decode b_M_change 33 = .ok (.aload_n 0, 1) := by decide +kernel
theorem d_M_change_34 : decode b_M_change 34 = .ok (.getfield 16, 3) := by decide +kernel
theorem d_M_change_37 : decode b_M_change 37 = .ok (.iload_n 1, 1) := by decide +kernel
theorem d_M_change_38 : decode b_M_change 38 = .ok (.iaload, 1) := by decide +kernel
theorem d_M_change_39 : decode b_M_change 39 = .ok (.istore 4, 2) := by decide +kernel
theorem d_M_change_41 : decode b_M_change 41 = .ok (.aload_n 0, 1) := by decide +kernel
theorem d_M_change_42 : decode b_M_change 42 = .ok (.getfield 16, 3) := by decide +kernel
theorem d_M_change_45 : decode b_M_change 45 = .ok (.iload_n 1, 1) := by decide +kernel
theorem d_M_change_46 : decode b_M_change 46 = .ok (.iload_n 2, 1) := by decide +kernel
theorem d_M_change_47 : decode b_M_change 47 = .ok (.iastore, 1) := by decide +kernel
theorem d_M_change_48 : decode b_M_change 48 = .ok (.aload_n 0, 1) := by decide +kernel
theorem d_M_change_49 : decode b_M_change 49 = .ok (.getfield 19, 3) := by decide +kernel
theorem d_M_change_52 : decode b_M_change 52 = .ok (.iload_n 1, 1) := by decide +kernel
theorem d_M_change_53 : decode b_M_change 53 = .ok (.iload_n 3, 1) := by decide +kernel
theorem d_M_change_54 : decode b_M_change 54 = .ok (.iastore, 1) := by decide +kernel
theorem d_M_change_55 : decode b_M_change 55 = .ok (.iload 4, 2) := by decide +kernel
theorem d_M_change_57 : decode b_M_change 57 = .ok (.ireturn, 1) := by decide +kernel
theorem d_M_shut_0 : decode b_M_shut 0 = .ok (.aload_n 0, 1) := by decide +kernel
theorem d_M_shut_1 : decode b_M_shut 1 = .ok (.iload_n 1, 1) := by decide +kernel
theorem d_M_shut_2 : decode b_M_shut 2 = .ok (.invokevirtual 95, 3) := by decide +kernel
theorem d_M_shut_5 : decode b_M_shut 5 = .ok (.ifCond .ne 6, 3) := by decide +kernel
theorem d_M_shut_8 : decode b_M_shut 8 = .ok (.bipush (-2), 2) := by decide +kernel
theorem d_M_shut_10 : decode b_M_shut 10 = .ok (.ireturn, 1) := by decide +kernel
theorem d_M_shut_11 : decode b_M_shut 11 = .ok (.aload_n 0, 1) := by decide +kernel
theorem d_M_shut_12 : decode b_M_shut 12 = .ok (.getfield 22, 3) := by decide +kernel
theorem d_M_shut_15 : decode b_M_shut 15 = .ok (.iload_n 1, 1) := by decide +kernel
theorem d_M_shut_16 : decode b_M_shut 16 = .ok (.baload, 1) := by decide +kernel
theorem d_M_shut_17 : decode b_M_shut 17 = .ok (.ifCond .eq 7, 3) := by decide +kernel
theorem d_M_shut_20 : decode b_M_shut 20 = .ok (.iconst 1, 1) := by decide +kernel
theorem d_M_shut_21 : decode b_M_shut 21 = .ok (.goto 4, 3) := by decide +kernel
theorem d_M_shut_24 : decode b_M_shut 24 = .ok (.iconst 0, 1) := by decide +kernel
theorem d_M_shut_25 : decode b_M_shut 25 = .ok (.istore_n 3, 1) := by decide +kernel
theorem d_M_shut_26 : decode b_M_shut 26 = .ok (.aload_n 0, 1) := by decide +kernel
theorem d_M_shut_27 : decode b_M_shut 27 = .ok (.getfield 22, 3) := by decide +kernel
theorem d_M_shut_30 : decode b_M_shut 30 = .ok (.iload_n 1, 1) := by decide +kernel
theorem d_M_shut_31 : decode b_M_shut 31 = .ok (.iload_n 2, 1) := by decide +kernel
theorem d_M_shut_32 : decode b_M_shut 32 = .ok (.bastore, 1) := by decide +kernel
theorem d_M_shut_33 : decode b_M_shut 33 = .ok (.iload_n 3, 1) := by decide +kernel
theorem d_M_shut_34 : decode b_M_shut 34 = .ok (.ireturn, 1) := by decide +kernel
theorem d_M_find_0 : decode b_M_find 0 = .ok (.aload_n 0, 1) := by decide +kernel
theorem d_M_find_1 : decode b_M_find 1 = .ok (.iconst 0, 1) := by decide +kernel
theorem d_M_find_2 : decode b_M_find 2 = .ok (.putfield 98, 3) := by decide +kernel
theorem d_M_find_5 : decode b_M_find 5 = .ok (.iconst 0, 1) := by decide +kernel
theorem d_M_find_6 : decode b_M_find 6 = .ok (.istore_n 3, 1) := by decide +kernel
theorem d_M_find_7 : decode b_M_find 7 = .ok (.iconst 1, 1) := by decide +kernel
theorem d_M_find_8 : decode b_M_find 8 = .ok (.iload_n 1, 1) := by decide +kernel
theorem d_M_find_9 : decode b_M_find 9 = .ok (.ishl, 1) := by decide +kernel
theorem d_M_find_10 : decode b_M_find 10 = .ok (.istore 4, 2) := by decide +kernel
theorem d_M_find_12 : decode b_M_find 12 = .ok (.aload_n 0, 1) := by decide +kernel
theorem d_M_find_13 : decode b_M_find 13 = .ok (.getfield 54, 3) := by decide +kernel
theorem d_M_find_16 : decode b_M_find 16 = .ok (.iconst 0, 1) := by decide +kernel
theorem d_M_find_17 : decode b_M_find 17 = .ok (.iload_n 1, 1) := by decide +kernel
theorem d_M_find_18 : decode b_M_find 18 = .ok (.iastore, 1) := by decide +kernel
theorem d_M_find_19 : decode b_M_find 19 = .ok (.aload_n 0, 1) := by decide +kernel
theorem d_M_find_20 : decode b_M_find 20 = .ok (.getfield 51, 3) := by decide +kernel
theorem d_M_find_23 : decode b_M_find 23 = .ok (.iconst 0, 1) := by decide +kernel
theorem d_M_find_24 : decode b_M_find 24 = .ok (.iconst 0, 1) := by decide +kernel
theorem d_M_find_25 : decode b_M_find 25 = .ok (.iastore, 1) := by decide +kernel
theorem d_M_find_26 : decode b_M_find 26 = .ok (.iload_n 3, 1) := by decide +kernel
theorem d_M_find_27 : decode b_M_find 27 = .ok (.ifCond .lt 181, 3) := by decide +kernel
theorem d_M_find_30 : decode b_M_find 30 = .ok (.aload_n 0, 1) := by decide +kernel
theorem d_M_find_31 : decode b_M_find 31 = .ok (.getfield 51, 3) := by decide +kernel
theorem d_M_find_34 : decode b_M_find 34 = .ok (.iload_n 3, 1) := by decide +kernel
theorem d_M_find_35 : decode b_M_find 35 = .ok (.iaload, 1) := by decide +kernel
theorem d_M_find_36 : decode b_M_find 36 = .ok (.istore 5, 2) := by decide +kernel
theorem d_M_find_38 : decode b_M_find 38 = .ok (.iload 5, 2) := by decide +kernel
theorem d_M_find_40 : decode b_M_find 40 = .ok (.aload_n 0, 1) := by decide +kernel
theorem d_M_find_41 : decode b_M_find 41 = .ok (.getfield 73, 3) := by decide +kernel
theorem d_M_find_44 : decode b_M_find 44 = .ok (.if_icmp .ne 38, 3) := by decide +kernel
theorem d_M_find_47 : decode b_M_find 47 = .ok (.iload 4, 2) := by decide +kernel
theorem d_M_find_49 : decode b_M_find 49 = .ok (.iconst 1, 1) := by decide +kernel
theorem d_M_find_50 : decode b_M_find 50 = .ok (.aload_n 0, 1) := by decide +kernel
theorem d_M_find_51 : decode b_M_find 51 = .ok (.getfield 54, 3) := by decide +kernel
theorem d_M_find_54 : decode b_M_find 54 = .ok (.iload_n 3, 1) := by decide +kernel
theorem d_M_find_55 : decode b_M_find 55 = .ok (.iaload, 1) := by decide +kernel
theorem d_M_find_56 : decode b_M_find 56 = .ok (.ishl, 1) := by decide +kernel
theorem d_M_find_57 : decode b_M_find 57 = .ok (.iconst (-1), 1) := by decide +kernel
theorem d_M_find_58 : decode b_M_find 58 = .ok (.ixor, 1) := by decide +kernel
theorem d_M_find_59 : decode b_M_find 59 = .ok (.iand, 1) := by decide +kernel
theorem d_M_find_60 : decode b_M_find 60 = .ok (.istore 4, 2) := by decide +kernel
theorem d_M_find_62 : decode b_M_find 62 = .ok (.iinc 3 (-1), 3) := by decide +kernel
theorem d_M_find_65 : decode b_M_find 65 = .ok (.iload_n 3, 1) := by decide +kernel
theorem d_M_find_66 : decode b_M_find 66 = .ok (.ifCond .lt 139, 3) := by decide +kernel
theorem d_M_find_69 : decode b_M_find 69 = .ok (.aload_n 0, 1) := by decide +kernel
theorem d_M_find_70 : decode b_M_find 70 = .ok (.getfield 51, 3) := by decide +kernel
theorem d_M_find_73 : decode b_M_find 73 = .ok (.iload_n 3, 1) := by decide +kernel
theorem d_M_find_74 : decode b_M_find 74 = .ok (.dup2, 1) := by decide +kernel
theorem d_M_find_75 : decode b_M_find 75 = .ok (.iaload, 1) := by decide +kernel
theorem d_M_find_76 : decode b_M_find 76 = .ok (.iconst 1, 1) := by decide +kernel
theorem d_M_find_77 : decode b_M_find 77 = .ok (.iadd, 1) := by decide +kernel
theorem d_M_find_78 : decode b_M_find 78 = .ok (.iastore, 1) := by decide +kernel
theorem d_M_find_79 : decode b_M_find 79 = .ok (.goto 126, 3) := by decide +kernel
theorem d_M_find_82 : decode b_M_find 82 = .ok (.aload_n 0, 1) := by decide +kernel
theorem d_M_find_83 : decode b_M_find 83 = .ok (.getfield 22, 3) := by decide +kernel
theorem d_M_find_86 : decode b_M_find 86 = .ok (.iload 5, 2) := by decide +kernel
theorem d_M_find_88 : decode b_M_find 88 = .ok (.baload, 1) := by decide +kernel
theorem d_M_find_89 : decode b_M_find 89 = .ok (.ifCond .ne 35, 3) := by decide +kernel
theorem d_M_find_92 : decode b_M_find 92 = .ok (.aload_n 0, 1) := by decide +kernel
theorem d_M_find_93 : decode b_M_find 93 = .ok (.getfield 7, 3) := by decide +kernel
theorem d_M_find_96 : decode b_M_find 96 = .ok (.iload 5, 2) := by decide +kernel
theorem d_M_find_98 : decode b_M_find 98 = .ok (.iaload, 1) := by decide +kernel
theorem d_M_find_99 : decode b_M_find 99 = .ok (.aload_n 0, 1) := by decide +kernel
theorem d_M_find_100 : decode b_M_find 100 = .ok (.getfield 54, 3) := by decide +kernel
theorem d_M_find_103 : decode b_M_find 103 = .ok (.iload_n 3, 1) := by decide +kernel
theorem d_M_find_104 : decode b_M_find 104 = .ok (.iaload, 1) := by decide +kernel
theorem d_M_find_105 : decode b_M_find 105 = .ok (.if_icmp .ne 19, 3) := by decide +kernel
theorem d_M_find_108 : decode b_M_find 108 = .ok (.iload 4, 2) := by decide +kernel
theorem d_M_find_110 : decode b_M_find 110 = .ok (.aload_n 0, 1) := by decide +kernel
theorem d_M_find_111 : decode b_M_find 111 = .ok (.getfield 13, 3) := by decide +kernel
theorem d_M_find_114 : decode b_M_find 114 = .ok (.iload 5, 2) := by decide +kernel
theorem d_M_find_116 : decode b_M_find 116 = .ok (.iaload, 1) := by decide +kernel
theorem d_M_find_117 : decode b_M_find 117 = .ok (.ishr, 1) := by decide +kernel
theorem d_M_find_118 : decode b_M_find 118 = .ok (.iconst 1, 1) := by decide +kernel
theorem d_M_find_119 : decode b_M_find 119 = .ok (.iand, 1) := by decide +kernel
theorem d_M_find_120 : decode b_M_find 120 = .ok (.iconst 1, 1) := by decide +kernel
theorem d_M_find_121 : decode b_M_find 121 = .ok (.if_icmp .ne 16, 3) := by decide +kernel
theorem d_M_find_124 : decode b_M_find 124 = .ok (.aload_n 0, 1) := by decide +kernel
theorem d_M_find_125 : decode b_M_find 125 = .ok (.getfield 51, 3) := by decide +kernel
theorem d_M_find_128 : decode b_M_find 128 = .ok (.iload_n 3, 1) := by decide +kernel
theorem d_M_find_129 : decode b_M_find 129 = .ok (.dup2, 1) := by decide +kernel
theorem d_M_find_130 : decode b_M_find 130 = .ok (.iaload, 1) := by decide +kernel
theorem d_M_find_131 : decode b_M_find 131 = .ok (.iconst 1, 1) := by decide +kernel
theorem d_M_find_132 : decode b_M_find 132 = .ok (.iadd, 1) := by decide +kernel
theorem d_M_find_133 : decode b_M_find 133 = .ok (.iastore, 1) := by decide +kernel
theorem d_M_find_134 : decode b_M_find 134 = .ok (.goto 71, 3) := by decide +kernel
theorem d_M_find_137 : decode b_M_find 137 = .ok (.aload_n 0, 1) := by decide +kernel
theorem d_M_find_138 : decode b_M_find 138 = .ok (.getfield 13, 3) := by decide +kernel
theorem d_M_find_141 : decode b_M_find 141 = .ok (.iload 5, 2) := by decide +kernel
theorem d_M_find_143 : decode b_M_find 143 = .ok (.iaload, 1) := by decide +kernel
theorem d_M_find_144 : decode b_M_find 144 = .ok (.iload_n 2, 1) := by decide +kernel
theorem d_M_find_145 : decode b_M_find 145 = .ok (.if_icmp .ne 23, 3) := by decide +kernel
theorem d_M_find_148 : decode b_M_find 148 = .ok (.aload_n 0, 1) := by decide +kernel
theorem d_M_find_149 : decode b_M_find 149 = .ok (.iload_n 3, 1) := by decide +kernel
theorem d_M_find_150 : decode b_M_find 150 = .ok (.iconst 1, 1) := by decide +kernel
theorem d_M_find_151 : decode b_M_find 151 = .ok (.iadd, 1) := by decide +kernel
theorem d_M_find_152 : decode b_M_find 152 = .ok (.invokevirtual 101, 3) := by decide +kernel
theorem d_M_find_155 : decode b_M_find 155 = .ok (.aload_n 0, 1) := by decide +kernel
theorem d_M_find_156 : decode b_M_find 156 = .ok (.getfield 51, 3) := by decide +kernel
theorem d_M_find_159 : decode b_M_find 159 = .ok (.iload_n 3, 1) := by decide +kernel
theorem d_M_find_160 : decode b_M_find 160 = .ok (.dup2, 1) := by decide +kernel
theorem d_M_find_161 : decode b_M_find 161 = .ok (.iaload, 1) := by decide +kernel
theorem d_M_find_162 : decode b_M_find 162 = .ok (.iconst 1, 1) := by decide +kernel
theorem d_M_find_163 : decode b_M_find 163 = .ok (.iadd, 1) := by decide +kernel
theorem d_M_find_164 : decode b_M_find 164 = .ok (.iastore, 1) := by decide +kernel
theorem d_M_find_165 : decode b_M_find 165 = .ok (.goto 40, 3) := by decide +kernel
theorem d_M_find_168 : decode b_M_find 168 = .ok (.iinc 3 1, 3) := by decide +kernel
theorem d_M_find_171 : decode b_M_find 171 = .ok (.aload_n 0, 1) := by decide +kernel
theorem d_M_find_172 : decode b_M_find 172 = .ok (.getfield 54, 3) := by decide +kernel
theorem d_M_find_175 : decode b_M_find 175 = .ok (.iload_n 3, 1) := by decide +kernel
theorem d_M_find_176 : decode b_M_find 176 = .ok (.aload_n 0, 1) := by decide +kernel
theorem d_M_find_177 : decode b_M_find 177 = .ok (.getfield 13, 3) := by decide +kernel
theorem d_M_find_180 : decode b_M_find 180 = .ok (.iload 5, 2) := by decide +kernel
theorem d_M_find_182 : decode b_M_find 182 = .ok (.iaload, 1) := by decide +kernel
theorem d_M_find_183 : decode b_M_find 183 = .ok (.iastore, 1) := by decide +kernel
theorem d_M_find_184 : decode b_M_find 184 = .ok (.iload 4, 2) := by decide +kernel
theorem d_M_find_186 : decode b_M_find 186 = .ok (.iconst 1, 1) := by decide +kernel
theorem d_M_find_187 : decode b_M_find 187 = .ok (.aload_n 0, 1) := by decide +kernel
theorem d_M_find_188 : decode b_M_find 188 = .ok (.getfield 13, 3) := by decide +kernel
theorem d_M_find_191 : decode b_M_find 191 = .ok (.iload 5, 2) := by decide +kernel
theorem d_M_find_193 : decode b_M_find 193 = .ok (.iaload, 1) := by decide +kernel
theorem d_M_find_194 : decode b_M_find 194 = .ok (.ishl, 1) := by decide +kernel
theorem d_M_find_195 : decode b_M_find 195 = .ok (.ior, 1) := by decide +kernel
theorem d_M_find_196 : decode b_M_find 196 = .ok (.istore 4, 2) := by decide +kernel
theorem d_M_find_198 : decode b_M_find 198 = .ok (.aload_n 0, 1) := by decide +kernel
theorem d_M_find_199 : decode b_M_find 199 = .ok (.getfield 51, 3) := by decide +kernel
theorem d_M_find_202 : decode b_M_find 202 = .ok (.iload_n 3, 1) := by decide +kernel
theorem d_M_find_203 : decode b_M_find 203 = .ok (.iconst 0, 1) := by decide +kernel
theorem d_M_find_204 : decode b_M_find 204 = .ok (.iastore, 1) := by decide +kernel
theorem d_M_find_205 : decode b_M_find 205 = .ok (.goto (-179), 3) := by decide +kernel
theorem d_M_find_208 : decode b_M_find 208 = .ok (.return_, 1) := by decide +kernel
theorem d_M_keep_0 : decode b_M_keep 0 = .ok (.iconst 0, 1) := by decide +kernel
theorem d_M_keep_1 : decode b_M_keep 1 = .ok (.istore_n 2, 1) := by decide +kernel
theorem d_M_keep_2 : decode b_M_keep 2 = .ok (.iconst 0, 1) := by decide +kernel
theorem d_M_keep_3 : decode b_M_keep 3 = .ok (.istore_n 3, 1) := by decide +kernel
theorem d_M_keep_4 : decode b_M_keep 4 = .ok (.lconst 0, 1) := by decide +kernel
theorem d_M_keep_5 : decode b_M_keep 5 = .ok (.lstore 4, 2) := by decide +kernel
theorem d_M_keep_7 : decode b_M_keep 7 = .ok (.iconst 0, 1) := by decide +kernel
theorem d_M_keep_8 : decode b_M_keep 8 = .ok (.istore 6, 2) := by decide +kernel
theorem d_M_keep_10 : decode b_M_keep 10 = .ok (.iconst 0, 1) := by decide +kernel
theorem d_M_keep_11 : decode b_M_keep 11 = .ok (.istore 7, 2) := by decide +kernel
theorem d_M_keep_13 : decode b_M_keep 13 = .ok (.iconst 0, 1) := by decide +kernel
theorem d_M_keep_14 : decode b_M_keep 14 = .ok (.istore 8, 2) := by decide +kernel
theorem d_M_keep_16 : decode b_M_keep 16 = .ok (.iload 8, 2) := by decide +kernel
theorem d_M_keep_18 : decode b_M_keep 18 = .ok (.iload_n 1, 1) := by decide +kernel
theorem d_M_keep_19 : decode b_M_keep 19 = .ok (.if_icmp .ge 80, 3) := by decide +kernel
theorem d_M_keep_22 : decode b_M_keep 22 = .ok (.aload_n 0, 1) := by decide +kernel
theorem d_M_keep_23 : decode b_M_keep 23 = .ok (.getfield 51, 3) := by decide +kernel
theorem d_M_keep_26 : decode b_M_keep 26 = .ok (.iload 8, 2) := by decide +kernel
theorem d_M_keep_28 : decode b_M_keep 28 = .ok (.iaload, 1) := by decide +kernel
theorem d_M_keep_29 : decode b_M_keep 29 = .ok (.istore 9, 2) := by decide +kernel
theorem d_M_keep_31 : decode b_M_keep 31 = .ok (.iload_n 2, 1) := by decide +kernel
theorem d_M_keep_32 : decode b_M_keep 32 = .ok (.aload_n 0, 1) := by decide +kernel
theorem d_M_keep_33 : decode b_M_keep 33 = .ok (.getfield 16, 3) := by decide +kernel
theorem d_M_keep_36 : decode b_M_keep 36 = .ok (.iload 9, 2) := by decide +kernel
theorem d_M_keep_38 : decode b_M_keep 38 = .ok (.iaload, 1) := by decide +kernel
theorem d_M_keep_39 : decode b_M_keep 39 = .ok (.iadd, 1) := by decide +kernel
theorem d_M_keep_40 : decode b_M_keep 40 = .ok (.istore_n 2, 1) := by decide +kernel
theorem d_M_keep_41 : decode b_M_keep 41 = .ok (.iload_n 3, 1) := by decide +kernel
theorem d_M_keep_42 : decode b_M_keep 42 = .ok (.aload_n 0, 1) := by decide +kernel
theorem d_M_keep_43 : decode b_M_keep 43 = .ok (.getfield 19, 3) := by decide +kernel
theorem d_M_keep_46 : decode b_M_keep 46 = .ok (.iload 9, 2) := by decide +kernel
theorem d_M_keep_48 : decode b_M_keep 48 = .ok (.iaload, 1) := by decide +kernel
theorem d_M_keep_49 : decode b_M_keep 49 = .ok (.iadd, 1) := by decide +kernel
theorem d_M_keep_50 : decode b_M_keep 50 = .ok (.istore_n 3, 1) := by decide +kernel
theorem d_M_keep_51 : decode b_M_keep 51 = .ok (.lload 4, 2) := by decide +kernel
theorem d_M_keep_53 : decode b_M_keep 53 = .ok (.iconst 5, 1) := by decide +kernel
theorem d_M_keep_54 : decode b_M_keep 54 = .ok (.lshl, 1) := by decide +kernel
theorem d_M_keep_55 : decode b_M_keep 55 = .ok (.iload 9, 2) := by decide +kernel
theorem d_M_keep_57 : decode b_M_keep 57 = .ok (.i2l, 1) := by decide +kernel
theorem d_M_keep_58 : decode b_M_keep 58 = .ok (.lor, 1) := by decide +kernel
theorem d_M_keep_59 : decode b_M_keep 59 = .ok (.lstore 4, 2) := by decide +kernel
theorem d_M_keep_61 : decode b_M_keep 61 = .ok (.iload 6, 2) := by decide +kernel
theorem d_M_keep_63 : decode b_M_keep 63 = .ok (.iconst 1, 1) := by decide +kernel
theorem d_M_keep_64 : decode b_M_keep 64 = .ok (.iload 9, 2) := by decide +kernel
theorem d_M_keep_66 : decode b_M_keep 66 = .ok (.ishl, 1) := by decide +kernel
theorem d_M_keep_67 : decode b_M_keep 67 = .ok (.ior, 1) := by decide +kernel
theorem d_M_keep_68 : decode b_M_keep 68 = .ok (.istore 6, 2) := by decide +kernel
theorem d_M_keep_70 : decode b_M_keep 70 = .ok (.iload 7, 2) := by decide +kernel
theorem d_M_keep_72 : decode b_M_keep 72 = .ok (.iload 8, 2) := by decide +kernel
theorem d_M_keep_74 : decode b_M_keep 74 = .ok (.ifCond .le 15, 3) := by decide +kernel
theorem d_M_keep_77 : decode b_M_keep 77 = .ok (.iconst 1, 1) := by decide +kernel
theorem d_M_keep_78 : decode b_M_keep 78 = .ok (.aload_n 0, 1) := by decide +kernel
theorem d_M_keep_79 : decode b_M_keep 79 = .ok (.getfield 54, 3) := by decide +kernel
theorem d_M_keep_82 : decode b_M_keep 82 = .ok (.iload 8, 2) := by decide +kernel
theorem d_M_keep_84 : decode b_M_keep 84 = .ok (.iaload, 1) := by decide +kernel
theorem d_M_keep_85 : decode b_M_keep 85 = .ok (.ishl, 1) := by decide +kernel
theorem d_M_keep_86 : decode b_M_keep 86 = .ok (.goto 4, 3) := by decide +kernel
theorem d_M_keep_89 : decode b_M_keep 89 = .ok (.iconst 0, 1) := by decide +kernel
theorem d_M_keep_90 : decode b_M_keep 90 = .ok (.ior, 1) := by decide +kernel
theorem d_M_keep_91 : decode b_M_keep 91 = .ok (.istore 7, 2) := by decide +kernel
theorem d_M_keep_93 : decode b_M_keep 93 = .ok (.iinc 8 1, 3) := by decide +kernel
theorem d_M_keep_96 : decode b_M_keep 96 = .ok (.goto (-80), 3) := by decide +kernel
theorem d_M_keep_99 : decode b_M_keep 99 = .ok (.aload_n 0, 1) := by decide +kernel
theorem d_M_keep_100 : decode b_M_keep 100 = .ok (.getfield 98, 3) := by decide +kernel
theorem d_M_keep_103 : decode b_M_keep 103 = .ok (.istore 8, 2) := by decide +kernel
theorem d_M_keep_105 : decode b_M_keep 105 = .ok (.iload 8, 2) := by decide +kernel
theorem d_M_keep_107 : decode b_M_keep 107 = .ok (.ifCond .le 120, 3) := by decide +kernel
theorem d_M_keep_110 : decode b_M_keep 110 = .ok (.aload_n 0, 1) := by decide +kernel
theorem d_M_keep_111 : decode b_M_keep 111 = .ok (.iload_n 2, 1) := by decide +kernel
theorem d_M_keep_112 : decode b_M_keep 112 = .ok (.iload_n 1, 1) := by decide +kernel
theorem d_M_keep_113 : decode b_M_keep 113 = .ok (.lload 4, 2) := by decide +kernel
theorem d_M_keep_115 : decode b_M_keep 115 = .ok (.iload 8, 2) := by decide +kernel
theorem d_M_keep_117 : decode b_M_keep 117 = .ok (.iconst 1, 1) := by decide +kernel
theorem d_M_keep_118 : decode b_M_keep 118 = .ok (.isub, 1) := by decide +kernel
theorem d_M_keep_119 : decode b_M_keep 119 = .ok (.invokevirtual 105, 3) := by decide +kernel
theorem d_M_keep_122 : decode b_M_keep 122 = .ok (.ifCond .eq 105, 3) := by decide +kernel
theorem d_M_keep_125 : decode b_M_keep 125 = .ok (.aload_n 0, 1) := by decide +kernel
theorem d_M_keep_126 : decode b_M_keep 126 = .ok (.getfield 26, 3) := by decide +kernel
theorem d_M_keep_129 : decode b_M_keep 129 = .ok (.iload 8, 2) := by decide +kernel
theorem d_M_keep_131 : decode b_M_keep 131 = .ok (.aload_n 0, 1) := by decide +kernel
theorem d_M_keep_132 : decode b_M_keep 132 = .ok (.getfield 26, 3) := by decide +kernel
theorem d_M_keep_135 : decode b_M_keep 135 = .ok (.iload 8, 2) := by decide +kernel
theorem d_M_keep_137 : decode b_M_keep 137 = .ok (.iconst 1, 1) := by decide +kernel
theorem d_M_keep_138 : decode b_M_keep 138 = .ok (.isub, 1) := by decide +kernel
theorem d_M_keep_139 : decode b_M_keep 139 = .ok (.iaload, 1) := by decide +kernel
theorem d_M_keep_140 : decode b_M_keep 140 = .ok (.iastore, 1) := by decide +kernel
theorem d_M_keep_141 : decode b_M_keep 141 = .ok (.aload_n 0, 1) := by decide +kernel
theorem d_M_keep_142 : decode b_M_keep 142 = .ok (.getfield 29, 3) := by decide +kernel
theorem d_M_keep_145 : decode b_M_keep 145 = .ok (.iload 8, 2) := by decide +kernel
theorem d_M_keep_147 : decode b_M_keep 147 = .ok (.aload_n 0, 1) := by decide +kernel
theorem d_M_keep_148 : decode b_M_keep 148 = .ok (.getfield 29, 3) := by decide +kernel
theorem d_M_keep_151 : decode b_M_keep 151 = .ok (.iload 8, 2) := by decide +kernel
theorem d_M_keep_153 : decode b_M_keep 153 = .ok (.iconst 1, 1) := by decide +kernel
theorem d_M_keep_154 : decode b_M_keep 154 = .ok (.isub, 1) := by decide +kernel
theorem d_M_keep_155 : decode b_M_keep 155 = .ok (.iaload, 1) := by decide +kernel
theorem d_M_keep_156 : decode b_M_keep 156 = .ok (.iastore, 1) := by decide +kernel
theorem d_M_keep_157 : decode b_M_keep 157 = .ok (.aload_n 0, 1) := by decide +kernel
theorem d_M_keep_158 : decode b_M_keep 158 = .ok (.getfield 32, 3) := by decide +kernel
theorem d_M_keep_161 : decode b_M_keep 161 = .ok (.iload 8, 2) := by decide +kernel
theorem d_M_keep_163 : decode b_M_keep 163 = .ok (.aload_n 0, 1) := by decide +kernel
theorem d_M_keep_164 : decode b_M_keep 164 = .ok (.getfield 32, 3) := by decide +kernel
theorem d_M_keep_167 : decode b_M_keep 167 = .ok (.iload 8, 2) := by decide +kernel
theorem d_M_keep_169 : decode b_M_keep 169 = .ok (.iconst 1, 1) := by decide +kernel
theorem d_M_keep_170 : decode b_M_keep 170 = .ok (.isub, 1) := by decide +kernel
theorem d_M_keep_171 : decode b_M_keep 171 = .ok (.laload, 1) := by decide +kernel
theorem d_M_keep_172 : decode b_M_keep 172 = .ok (.lastore, 1) := by decide +kernel
theorem d_M_keep_173 : decode b_M_keep 173 = .ok (.aload_n 0, 1) := by decide +kernel
theorem d_M_keep_174 : decode b_M_keep 174 = .ok (.getfield 36, 3) := by decide +kernel
theorem d_M_keep_177 : decode b_M_keep 177 = .ok (.iload 8, 2) := by decide +kernel
theorem d_M_keep_179 : decode b_M_keep 179 = .ok (.aload_n 0, 1) := by decide +kernel
theorem d_M_keep_180 : decode b_M_keep 180 = .ok (.getfield 36, 3) := by decide +kernel
theorem d_M_keep_183 : decode b_M_keep 183 = .ok (.iload 8, 2) := by decide +kernel
theorem d_M_keep_185 : decode b_M_keep 185 = .ok (.iconst 1, 1) := by decide +kernel
theorem d_M_keep_186 : decode b_M_keep 186 = .ok (.isub, 1) := by decide +kernel
theorem d_M_keep_187 : decode b_M_keep 187 = .ok (.iaload, 1) := by decide +kernel
theorem d_M_keep_188 : decode b_M_keep 188 = .ok (.iastore, 1) := by decide +kernel
theorem d_M_keep_189 : decode b_M_keep 189 = .ok (.aload_n 0, 1) := by decide +kernel
theorem d_M_keep_190 : decode b_M_keep 190 = .ok (.getfield 39, 3) := by decide +kernel
theorem d_M_keep_193 : decode b_M_keep 193 = .ok (.iload 8, 2) := by decide +kernel
theorem d_M_keep_195 : decode b_M_keep 195 = .ok (.aload_n 0, 1) := by decide +kernel
theorem d_M_keep_196 : decode b_M_keep 196 = .ok (.getfield 39, 3) := by decide +kernel
theorem d_M_keep_199 : decode b_M_keep 199 = .ok (.iload 8, 2) := by decide +kernel
theorem d_M_keep_201 : decode b_M_keep 201 = .ok (.iconst 1, 1) := by decide +kernel
theorem d_M_keep_202 : decode b_M_keep 202 = .ok (.isub, 1) := by decide +kernel
theorem d_M_keep_203 : decode b_M_keep 203 = .ok (.iaload, 1) := by decide +kernel
theorem d_M_keep_204 : decode b_M_keep 204 = .ok (.iastore, 1) := by decide +kernel
theorem d_M_keep_205 : decode b_M_keep 205 = .ok (.aload_n 0, 1) := by decide +kernel
theorem d_M_keep_206 : decode b_M_keep 206 = .ok (.getfield 42, 3) := by decide +kernel
theorem d_M_keep_209 : decode b_M_keep 209 = .ok (.iload 8, 2) := by decide +kernel
theorem d_M_keep_211 : decode b_M_keep 211 = .ok (.aload_n 0, 1) := by decide +kernel
theorem d_M_keep_212 : decode b_M_keep 212 = .ok (.getfield 42, 3) := by decide +kernel
theorem d_M_keep_215 : decode b_M_keep 215 = .ok (.iload 8, 2) := by decide +kernel
theorem d_M_keep_217 : decode b_M_keep 217 = .ok (.iconst 1, 1) := by decide +kernel
theorem d_M_keep_218 : decode b_M_keep 218 = .ok (.isub, 1) := by decide +kernel
theorem d_M_keep_219 : decode b_M_keep 219 = .ok (.iaload, 1) := by decide +kernel
theorem d_M_keep_220 : decode b_M_keep 220 = .ok (.iastore, 1) := by decide +kernel
theorem d_M_keep_221 : decode b_M_keep 221 = .ok (.iinc 8 (-1), 3) := by decide +kernel
theorem d_M_keep_224 : decode b_M_keep 224 = .ok (.goto (-119), 3) := by decide +kernel
theorem d_M_keep_227 : decode b_M_keep 227 = .ok (.aload_n 0, 1) := by decide +kernel
theorem d_M_keep_228 : decode b_M_keep 228 = .ok (.getfield 26, 3) := by decide +kernel
theorem d_M_keep_231 : decode b_M_keep 231 = .ok (.iload 8, 2) := by decide +kernel
theorem d_M_keep_233 : decode b_M_keep 233 = .ok (.iload_n 2, 1) := by decide +kernel
theorem d_M_keep_234 : decode b_M_keep 234 = .ok (.iastore, 1) := by decide +kernel
theorem d_M_keep_235 : decode b_M_keep 235 = .ok (.aload_n 0, 1) := by decide +kernel
theorem d_M_keep_236 : decode b_M_keep 236 = .ok (.getfield 29, 3) := by decide +kernel
theorem d_M_keep_239 : decode b_M_keep 239 = .ok (.iload 8, 2) := by decide +kernel
theorem d_M_keep_241 : decode b_M_keep 241 = .ok (.iload_n 3, 1) := by decide +kernel
theorem d_M_keep_242 : decode b_M_keep 242 = .ok (.iastore, 1) := by decide +kernel
theorem d_M_keep_243 : decode b_M_keep 243 = .ok (.aload_n 0, 1) := by decide +kernel
theorem d_M_keep_244 : decode b_M_keep 244 = .ok (.getfield 32, 3) := by decide +kernel
theorem d_M_keep_247 : decode b_M_keep 247 = .ok (.iload 8, 2) := by decide +kernel
theorem d_M_keep_249 : decode b_M_keep 249 = .ok (.lload 4, 2) := by decide +kernel
theorem d_M_keep_251 : decode b_M_keep 251 = .ok (.lastore, 1) := by decide +kernel
theorem d_M_keep_252 : decode b_M_keep 252 = .ok (.aload_n 0, 1) := by decide +kernel
theorem d_M_keep_253 : decode b_M_keep 253 = .ok (.getfield 36, 3) := by decide +kernel
theorem d_M_keep_256 : decode b_M_keep 256 = .ok (.iload 8, 2) := by decide +kernel
theorem d_M_keep_258 : decode b_M_keep 258 = .ok (.iload_n 1, 1) := by decide +kernel
theorem d_M_keep_259 : decode b_M_keep 259 = .ok (.iastore, 1) := by decide +kernel
theorem d_M_keep_260 : decode b_M_keep 260 = .ok (.aload_n 0, 1) := by decide +kernel
theorem d_M_keep_261 : decode b_M_keep 261 = .ok (.getfield 39, 3) := by decide +kernel
theorem d_M_keep_264 : decode b_M_keep 264 = .ok (.iload 8, 2) := by decide +kernel
theorem d_M_keep_266 : decode b_M_keep 266 = .ok (.iload 6, 2) := by decide +kernel
theorem d_M_keep_268 : decode b_M_keep 268 = .ok (.iastore, 1) := by decide +kernel
theorem d_M_keep_269 : decode b_M_keep 269 = .ok (.aload_n 0, 1) := by decide +kernel
theorem d_M_keep_270 : decode b_M_keep 270 = .ok (.getfield 42, 3) := by decide +kernel
theorem d_M_keep_273 : decode b_M_keep 273 = .ok (.iload 8, 2) := by decide +kernel
theorem d_M_keep_275 : decode b_M_keep 275 = .ok (.iload 7, 2) := by decide +kernel
theorem d_M_keep_277 : decode b_M_keep 277 = .ok (.iastore, 1) := by decide +kernel
theorem d_M_keep_278 : decode b_M_keep 278 = .ok (.aload_n 0, 1) := by decide +kernel
theorem d_M_keep_279 : decode b_M_keep 279 = .ok (.dup, 1) := by decide +kernel
theorem d_M_keep_280 : decode b_M_keep 280 = .ok (.getfield 98, 3) := by decide +kernel
theorem d_M_keep_283 : decode b_M_keep 283 = .ok (.iconst 1, 1) := by decide +kernel
theorem d_M_keep_284 : decode b_M_keep 284 = .ok (.iadd, 1) := by decide +kernel
theorem d_M_keep_285 : decode b_M_keep 285 = .ok (.putfield 98, 3) := by decide +kernel
theorem d_M_keep_288 : decode b_M_keep 288 = .ok (.return_, 1) := by decide +kernel
theorem d_M_isAhead_0 : decode b_M_isAhead 0 = .ok (.iload_n 1, 1) := by decide +kernel
theorem d_M_isAhead_1 : decode b_M_isAhead 1 = .ok (.aload_n 0, 1) := by decide +kernel
theorem d_M_isAhead_2 : decode b_M_isAhead 2 = .ok (.getfield 26, 3) := by decide +kernel
theorem d_M_isAhead_5 : decode b_M_isAhead 5 = .ok (.iload 5, 2) := by decide +kernel
theorem d_M_isAhead_7 : decode b_M_isAhead 7 = .ok (.iaload, 1) := by decide +kernel
theorem d_M_isAhead_8 : decode b_M_isAhead 8 = .ok (.if_icmp .eq 20, 3) := by decide +kernel
theorem d_M_isAhead_11 : decode b_M_isAhead 11 = .ok (.iload_n 1, 1) := by decide +kernel
theorem d_M_isAhead_12 : decode b_M_isAhead 12 = .ok (.aload_n 0, 1) := by decide +kernel
theorem d_M_isAhead_13 : decode b_M_isAhead 13 = .ok (.getfield 26, 3) := by decide +kernel
theorem d_M_isAhead_16 : decode b_M_isAhead 16 = .ok (.iload 5, 2) := by decide +kernel
theorem d_M_isAhead_18 : decode b_M_isAhead 18 = .ok (.iaload, 1) := by decide +kernel
theorem d_M_isAhead_19 : decode b_M_isAhead 19 = .ok (.if_icmp .ge 7, 3) := by decide +kernel
theorem d_M_isAhead_22 : decode b_M_isAhead 22 = .ok (.iconst 1, 1) := by decide +kernel
theorem d_M_isAhead_23 : decode b_M_isAhead 23 = .ok (.goto 4, 3) := by decide +kernel
theorem d_M_isAhead_26 : decode b_M_isAhead 26 = .ok (.iconst 0, 1) := by decide +kernel
theorem d_M_isAhead_27 : decode b_M_isAhead 27 = .ok (.ireturn, 1) := by decide +kernel
theorem d_M_isAhead_28 : decode b_M_isAhead 28 = .ok (.iload_n 2, 1) := by decide +kernel
theorem d_M_isAhead_29 : decode b_M_isAhead 29 = .ok (.aload_n 0, 1) := by decide +kernel
theorem d_M_isAhead_30 : decode b_M_isAhead 30 = .ok (.getfield 36, 3) := by decide +kernel
theorem d_M_isAhead_33 : decode b_M_isAhead 33 = .ok (.iload 5, 2) := by decide +kernel
theorem d_M_isAhead_35 : decode b_M_isAhead 35 = .ok (.iaload, 1) := by decide +kernel
theorem d_M_isAhead_36 : decode b_M_isAhead 36 = .ok (.if_icmp .eq 20, 3) := by decide +kernel
theorem d_M_isAhead_39 : decode b_M_isAhead 39 = .ok (.iload_n 2, 1) := by decide +kernel
theorem d_M_isAhead_40 : decode b_M_isAhead 40 = .ok (.aload_n 0, 1) := by decide +kernel
theorem d_M_isAhead_41 : decode b_M_isAhead 41 = .ok (.getfield 36, 3) := by decide +kernel
theorem d_M_isAhead_44 : decode b_M_isAhead 44 = .ok (.iload 5, 2) := by decide +kernel
theorem d_M_isAhead_46 : decode b_M_isAhead 46 = .ok (.iaload, 1) := by decide +kernel
theorem d_M_isAhead_47 : decode b_M_isAhead 47 = .ok (.if_icmp .ge 7, 3) := by decide +kernel
theorem d_M_isAhead_50 : decode b_M_isAhead 50 = .ok (.iconst 1, 1) := by decide +kernel
theorem d_M_isAhead_51 : decode b_M_isAhead 51 = .ok (.goto 4, 3) := by decide +kernel
theorem d_M_isAhead_54 : decode b_M_isAhead 54 = .ok (.iconst 0, 1) := by decide +kernel
theorem d_M_isAhead_55 : decode b_M_isAhead 55 = .ok (.ireturn, 1) := by decide +kernel
theorem d_M_isAhead_56 : decode b_M_isAhead 56 = .ok (.lload_n 3, 1) := by decide +kernel
theorem d_M_isAhead_57 : decode b_M_isAhead 57 = .ok (.aload_n 0, 1) := by decide +kernel
theorem d_M_isAhead_58 : decode b_M_isAhead 58 = .ok (.getfield 32, 3) := by decide +kernel
theorem d_M_isAhead_61 : decode b_M_isAhead 61 = .ok (.iload 5, 2) := by decide +kernel
theorem d_M_isAhead_63 : decode b_M_isAhead 63 = .ok (.laload, 1) := by decide +kernel
theorem d_M_isAhead_64 : decode b_M_isAhead 64 = .ok (.lcmp, 1) := by decide +kernel
theorem d_M_isAhead_65 : decode b_M_isAhead 65 = .ok (.ifCond .ge 7, 3) := by decide +kernel
theorem d_M_isAhead_68 : decode b_M_isAhead 68 = .ok (.iconst 1, 1) := by decide +kernel
theorem d_M_isAhead_69 : decode b_M_isAhead 69 = .ok (.goto 4, 3) := by decide +kernel
theorem d_M_isAhead_72 : decode b_M_isAhead 72 = .ok (.iconst 0, 1) := by decide +kernel
theorem d_M_isAhead_73 : decode b_M_isAhead 73 = .ok (.ireturn, 1) := by decide +kernel
theorem d_M_tell_0 : decode b_M_tell 0 = .ok (.aload_n 0, 1) := by decide +kernel
theorem d_M_tell_1 : decode b_M_tell 1 = .ok (.iconst 1, 1) := by decide +kernel
theorem d_M_tell_2 : decode b_M_tell 2 = .ok (.putfield 76, 3) := by decide +kernel
theorem d_M_tell_5 : decode b_M_tell 5 = .ok (.aload_n 0, 1) := by decide +kernel
theorem d_M_tell_6 : decode b_M_tell 6 = .ok (.aload_n 0, 1) := by decide +kernel
theorem d_M_tell_7 : decode b_M_tell 7 = .ok (.getfield 26, 3) := by decide +kernel
theorem d_M_tell_10 : decode b_M_tell 10 = .ok (.iload_n 1, 1) := by decide +kernel
theorem d_M_tell_11 : decode b_M_tell 11 = .ok (.iaload, 1) := by decide +kernel
theorem d_M_tell_12 : decode b_M_tell 12 = .ok (.putfield 109, 3) := by decide +kernel
theorem d_M_tell_15 : decode b_M_tell 15 = .ok (.aload_n 0, 1) := by decide +kernel
theorem d_M_tell_16 : decode b_M_tell 16 = .ok (.aload_n 0, 1) := by decide +kernel
theorem d_M_tell_17 : decode b_M_tell 17 = .ok (.getfield 29, 3) := by decide +kernel
theorem d_M_tell_20 : decode b_M_tell 20 = .ok (.iload_n 1, 1) := by decide +kernel
theorem d_M_tell_21 : decode b_M_tell 21 = .ok (.iaload, 1) := by decide +kernel
theorem d_M_tell_22 : decode b_M_tell 22 = .ok (.putfield 112, 3) := by decide +kernel
theorem d_M_tell_25 : decode b_M_tell 25 = .ok (.aload_n 0, 1) := by decide +kernel
theorem d_M_tell_26 : decode b_M_tell 26 = .ok (.aload_n 0, 1) := by decide +kernel
theorem d_M_tell_27 : decode b_M_tell 27 = .ok (.getfield 36, 3) := by decide +kernel
theorem d_M_tell_30 : decode b_M_tell 30 = .ok (.iload_n 1, 1) := by decide +kernel
theorem d_M_tell_31 : decode b_M_tell 31 = .ok (.iaload, 1) := by decide +kernel
theorem d_M_tell_32 : decode b_M_tell 32 = .ok (.putfield 115, 3) := by decide +kernel
theorem d_M_tell_35 : decode b_M_tell 35 = .ok (.aload_n 0, 1) := by decide +kernel
theorem d_M_tell_36 : decode b_M_tell 36 = .ok (.aload_n 0, 1) := by decide +kernel
theorem d_M_tell_37 : decode b_M_tell 37 = .ok (.getfield 32, 3) := by decide +kernel
theorem d_M_tell_40 : decode b_M_tell 40 = .ok (.iload_n 1, 1) := by decide +kernel
theorem d_M_tell_41 : decode b_M_tell 41 = .ok (.laload, 1) := by decide +kernel
theorem d_M_tell_42 : decode b_M_tell 42 = .ok (.putfield 118, 3) := by decide +kernel
theorem d_M_tell_45 : decode b_M_tell 45 = .ok (.aload_n 0, 1) := by decide +kernel
theorem d_M_tell_46 : decode b_M_tell 46 = .ok (.getfield 115, 3) := by decide +kernel
theorem d_M_tell_49 : decode b_M_tell 49 = .ok (.ireturn, 1) := by decide +kernel
theorem d_M_next_0 : decode b_M_next 0 = .ok (.aload_n 0, 1) := by decide +kernel
theorem d_M_next_1 : decode b_M_next 1 = .ok (.iload_n 1, 1) := by decide +kernel
theorem d_M_next_2 : decode b_M_next 2 = .ok (.iload_n 2, 1) := by decide +kernel
theorem d_M_next_3 : decode b_M_next 3 = .ok (.invokevirtual 91, 3) := by decide +kernel
theorem d_M_next_6 : decode b_M_next 6 = .ok (.ifCond .eq 14, 3) := by decide +kernel
theorem d_M_next_9 : decode b_M_next 9 = .ok (.iload_n 3, 1) := by decide +kernel
theorem d_M_next_10 : decode b_M_next 10 = .ok (.iconst 0, 1) := by decide +kernel
theorem d_M_next_11 : decode b_M_next 11 = .ok (.sipush 299, 3) := by decide +kernel
theorem d_M_next_14 : decode b_M_next 14 = .ok (.invokestatic 83, 3) := by decide +kernel
theorem d_M_next_17 : decode b_M_next 17 = .ok (.ifCond .ne 6, 3) := by decide +kernel
theorem d_M_next_20 : decode b_M_next 20 = .ok (.bipush (-2), 2) := by decide +kernel
theorem d_M_next_22 : decode b_M_next 22 = .ok (.ireturn, 1) := by decide +kernel
theorem d_M_next_23 : decode b_M_next 23 = .ok (.aload_n 0, 1) := by decide +kernel
theorem d_M_next_24 : decode b_M_next 24 = .ok (.iload_n 1, 1) := by decide +kernel
theorem d_M_next_25 : decode b_M_next 25 = .ok (.iload_n 2, 1) := by decide +kernel
theorem d_M_next_26 : decode b_M_next 26 = .ok (.invokevirtual 122, 3) := by decide +kernel
theorem d_M_next_29 : decode b_M_next 29 = .ok (.iload_n 3, 1) := by decide +kernel
theorem d_M_next_30 : decode b_M_next 30 = .ok (.aload_n 0, 1) := by decide +kernel
theorem d_M_next_31 : decode b_M_next 31 = .ok (.getfield 98, 3) := by decide +kernel
theorem d_M_next_34 : decode b_M_next 34 = .ok (.if_icmp .ge 11, 3) := by decide +kernel
theorem d_M_next_37 : decode b_M_next 37 = .ok (.aload_n 0, 1) := by decide +kernel
theorem d_M_next_38 : decode b_M_next 38 = .ok (.iload_n 3, 1) := by decide +kernel
theorem d_M_next_39 : decode b_M_next 39 = .ok (.invokevirtual 126, 3) := by decide +kernel
theorem d_M_next_42 : decode b_M_next 42 = .ok (.goto 4, 3) := by decide +kernel
theorem d_M_next_45 : decode b_M_next 45 = .ok (.iconst (-1), 1) := by decide +kernel
theorem d_M_next_46 : decode b_M_next 46 = .ok (.ireturn, 1) := by decide +kernel
theorem d_M_count_0 : decode b_M_count 0 = .ok (.aload_n 0, 1) := by decide +kernel
theorem d_M_count_1 : decode b_M_count 1 = .ok (.iload_n 1, 1) := by decide +kernel
theorem d_M_count_2 : decode b_M_count 2 = .ok (.iload_n 2, 1) := by decide +kernel
theorem d_M_count_3 : decode b_M_count 3 = .ok (.invokevirtual 91, 3) := by decide +kernel
theorem d_M_count_6 : decode b_M_count 6 = .ok (.ifCond .ne 6, 3) := by decide +kernel
theorem d_M_count_9 : decode b_M_count 9 = .ok (.bipush (-2), 2) := by decide +kernel
theorem d_M_count_11 : decode b_M_count 11 = .ok (.ireturn, 1) := by decide +kernel
theorem d_M_count_12 : decode b_M_count 12 = .ok (.aload_n 0, 1) := by decide +kernel
theorem d_M_count_13 : decode b_M_count 13 = .ok (.iload_n 1, 1) := by decide +kernel
theorem d_M_count_14 : decode b_M_count 14 = .ok (.iload_n 2, 1) := by decide +kernel
theorem d_M_count_15 : decode b_M_count 15 = .ok (.invokevirtual 122, 3) := by decide +kernel
theorem d_M_count_18 : decode b_M_count 18 = .ok (.aload_n 0, 1) := by decide +kernel
theorem d_M_count_19 : decode b_M_count 19 = .ok (.getfield 98, 3) := by decide +kernel
theorem d_M_count_22 : decode b_M_count 22 = .ok (.ireturn, 1) := by decide +kernel
theorem d_M_apart_0 : decode b_M_apart 0 = .ok (.aload_n 0, 1) := by decide +kernel
theorem d_M_apart_1 : decode b_M_apart 1 = .ok (.iload_n 1, 1) := by decide +kernel
theorem d_M_apart_2 : decode b_M_apart 2 = .ok (.iload_n 2, 1) := by decide +kernel
theorem d_M_apart_3 : decode b_M_apart 3 = .ok (.invokevirtual 91, 3) := by decide +kernel
theorem d_M_apart_6 : decode b_M_apart 6 = .ok (.ifCond .eq 22, 3) := by decide +kernel
theorem d_M_apart_9 : decode b_M_apart 9 = .ok (.iload_n 3, 1) := by decide +kernel
theorem d_M_apart_10 : decode b_M_apart 10 = .ok (.iconst 1, 1) := by decide +kernel
theorem d_M_apart_11 : decode b_M_apart 11 = .ok (.iconst 5, 1) := by decide +kernel
theorem d_M_apart_12 : decode b_M_apart 12 = .ok (.invokestatic 83, 3) := by decide +kernel
theorem d_M_apart_15 : decode b_M_apart 15 = .ok (.ifCond .eq 13, 3) := by decide +kernel
theorem d_M_apart_18 : decode b_M_apart 18 = .ok (.iload 4, 2) := by decide +kernel
theorem d_M_apart_20 : decode b_M_apart 20 = .ok (.iconst 0, 1) := by decide +kernel
theorem d_M_apart_21 : decode b_M_apart 21 = .ok (.iconst 1, 1) := by decide +kernel
theorem d_M_apart_22 : decode b_M_apart 22 = .ok (.invokestatic 83, 3) := by decide +kernel
theorem d_M_apart_25 : decode b_M_apart 25 = .ok (.ifCond .ne 6, 3) := by decide +kernel
theorem d_M_apart_28 : decode b_M_apart 28 = .ok (.bipush (-2), 2) := by decide +kernel
theorem d_M_apart_30 : decode b_M_apart 30 = .ok (.ireturn, 1) := by decide +kernel
theorem d_M_apart_31 : decode b_M_apart 31 = .ok (.aload_n 0, 1) := by decide +kernel
theorem d_M_apart_32 : decode b_M_apart 32 = .ok (.iload_n 1, 1) := by decide +kernel
theorem d_M_apart_33 : decode b_M_apart 33 = .ok (.iload_n 2, 1) := by decide +kernel
theorem d_M_apart_34 : decode b_M_apart 34 = .ok (.iload 4, 2) := by decide +kernel
theorem d_M_apart_36 : decode b_M_apart 36 = .ok (.invokevirtual 130, 3) := by decide +kernel
theorem d_M_apart_39 : decode b_M_apart 39 = .ok (.iload_n 3, 1) := by decide +kernel
theorem d_M_apart_40 : decode b_M_apart 40 = .ok (.if_icmp .ge 5, 3) := by decide +kernel
theorem d_M_apart_43 : decode b_M_apart 43 = .ok (.iconst (-1), 1) := by decide +kernel
theorem d_M_apart_44 : decode b_M_apart 44 = .ok (.ireturn, 1) := by decide +kernel
theorem d_M_apart_45 : decode b_M_apart 45 = .ok (.aload_n 0, 1) := by decide +kernel
theorem d_M_apart_46 : decode b_M_apart 46 = .ok (.iload_n 1, 1) := by decide +kernel
theorem d_M_apart_47 : decode b_M_apart 47 = .ok (.iload_n 2, 1) := by decide +kernel
theorem d_M_apart_48 : decode b_M_apart 48 = .ok (.invokevirtual 122, 3) := by decide +kernel
theorem d_M_apart_51 : decode b_M_apart 51 = .ok (.iconst (-1), 1) := by decide +kernel
theorem d_M_apart_52 : decode b_M_apart 52 = .ok (.istore 5, 2) := by decide +kernel
theorem d_M_apart_54 : decode b_M_apart 54 = .ok (.iconst 0, 1) := by decide +kernel
theorem d_M_apart_55 : decode b_M_apart 55 = .ok (.istore 6, 2) := by decide +kernel
theorem d_M_apart_57 : decode b_M_apart 57 = .ok (.aload_n 0, 1) := by decide +kernel
theorem d_M_apart_58 : decode b_M_apart 58 = .ok (.getfield 57, 3) := by decide +kernel
theorem d_M_apart_61 : decode b_M_apart 61 = .ok (.iconst 0, 1) := by decide +kernel
theorem d_M_apart_62 : decode b_M_apart 62 = .ok (.iconst 0, 1) := by decide +kernel
theorem d_M_apart_63 : decode b_M_apart 63 = .ok (.iastore, 1) := by decide +kernel
theorem d_M_apart_64 : decode b_M_apart 64 = .ok (.aload_n 0, 1) := by decide +kernel
theorem d_M_apart_65 : decode b_M_apart 65 = .ok (.getfield 60, 3) := by decide +kernel
theorem d_M_apart_68 : decode b_M_apart 68 = .ok (.iconst 0, 1) := by decide +kernel
theorem d_M_apart_69 : decode b_M_apart 69 = .ok (.iconst 0, 1) := by decide +kernel
theorem d_M_apart_70 : decode b_M_apart 70 = .ok (.iastore, 1) := by decide +kernel
theorem d_M_apart_71 : decode b_M_apart 71 = .ok (.aload_n 0, 1) := by decide +kernel
theorem d_M_apart_72 : decode b_M_apart 72 = .ok (.getfield 63, 3) := by decide +kernel
theorem d_M_apart_75 : decode b_M_apart 75 = .ok (.iconst 0, 1) := by decide +kernel
theorem d_M_apart_76 : decode b_M_apart 76 = .ok (.iconst 0, 1) := by decide +kernel
theorem d_M_apart_77 : decode b_M_apart 77 = .ok (.iastore, 1) := by decide +kernel
theorem d_M_apart_78 : decode b_M_apart 78 = .ok (.aload_n 0, 1) := by decide +kernel
theorem d_M_apart_79 : decode b_M_apart 79 = .ok (.getfield 66, 3) := by decide +kernel
theorem d_M_apart_82 : decode b_M_apart 82 = .ok (.iconst 0, 1) := by decide +kernel
theorem d_M_apart_83 : decode b_M_apart 83 = .ok (.iconst 0, 1) := by decide +kernel
theorem d_M_apart_84 : decode b_M_apart 84 = .ok (.iastore, 1) := by decide +kernel
theorem d_M_apart_85 : decode b_M_apart 85 = .ok (.iload 6, 2) := by decide +kernel
theorem d_M_apart_87 : decode b_M_apart 87 = .ok (.ifCond .lt 272, 3) := by decide +kernel
theorem d_M_apart_90 : decode b_M_apart 90 = .ok (.aload_n 0, 1) := by decide +kernel
theorem d_M_apart_91 : decode b_M_apart 91 = .ok (.getfield 57, 3) := by decide +kernel
theorem d_M_apart_94 : decode b_M_apart 94 = .ok (.iload 6, 2) := by decide +kernel
theorem d_M_apart_96 : decode b_M_apart 96 = .ok (.iaload, 1) := by decide +kernel
theorem d_M_apart_97 : decode b_M_apart 97 = .ok (.istore 7, 2) := by decide +kernel
theorem d_M_apart_99 : decode b_M_apart 99 = .ok (.iload 7, 2) := by decide +kernel
theorem d_M_apart_101 : decode b_M_apart 101 = .ok (.aload_n 0, 1) := by decide +kernel
theorem d_M_apart_102 : decode b_M_apart 102 = .ok (.getfield 98, 3) := by decide +kernel
theorem d_M_apart_105 : decode b_M_apart 105 = .ok (.if_icmp .eq 34, 3) := by decide +kernel
theorem d_M_apart_108 : decode b_M_apart 108 = .ok (.iload 5, 2) := by decide +kernel
theorem d_M_apart_110 : decode b_M_apart 110 = .ok (.iconst (-1), 1) := by decide +kernel
theorem d_M_apart_111 : decode b_M_apart 111 = .ok (.if_icmp .eq 32, 3) := by decide +kernel
theorem d_M_apart_114 : decode b_M_apart 114 = .ok (.aload_n 0, 1) := by decide +kernel
theorem d_M_apart_115 : decode b_M_apart 115 = .ok (.getfield 60, 3) := by decide +kernel
theorem d_M_apart_118 : decode b_M_apart 118 = .ok (.iload 6, 2) := by decide +kernel
theorem d_M_apart_120 : decode b_M_apart 120 = .ok (.iaload, 1) := by decide +kernel
theorem d_M_apart_121 : decode b_M_apart 121 = .ok (.iload_n 3, 1) := by decide +kernel
theorem d_M_apart_122 : decode b_M_apart 122 = .ok (.iload 6, 2) := by decide +kernel
theorem d_M_apart_124 : decode b_M_apart 124 = .ok (.isub, 1) := by decide +kernel
theorem d_M_apart_125 : decode b_M_apart 125 = .ok (.aload_n 0, 1) := by decide +kernel
theorem d_M_apart_126 : decode b_M_apart 126 = .ok (.getfield 26, 3) := by decide +kernel
theorem d_M_apart_129 : decode b_M_apart 129 = .ok (.iload 7, 2) := by decide +kernel
theorem d_M_apart_131 : decode b_M_apart 131 = .ok (.iaload, 1) := by decide +kernel
theorem d_M_apart_132 : decode b_M_apart 132 = .ok (.imul, 1) := by decide +kernel
theorem d_M_apart_133 : decode b_M_apart 133 = .ok (.iadd, 1) := by decide +kernel
theorem d_M_apart_134 : decode b_M_apart 134 = .ok (.iload 5, 2) := by decide +kernel
theorem d_M_apart_136 : decode b_M_apart 136 = .ok (.if_icmp .lt 7, 3) := by decide +kernel
theorem d_M_apart_139 : decode b_M_apart 139 = .ok (.iconst 1, 1) := by decide +kernel
theorem d_M_apart_140 : decode b_M_apart 140 = .ok (.goto 4, 3) := by decide +kernel
theorem d_M_apart_143 : decode b_M_apart 143 = .ok (.iconst 0, 1) := by decide +kernel
theorem d_M_apart_144 : decode b_M_apart 144 = .ok (.istore 8, 2) := by decide +kernel
theorem d_M_apart_146 : decode b_M_apart 146 = .ok (.iload 8, 2) := by decide +kernel
theorem d_M_apart_148 : decode b_M_apart 148 = .ok (.ifCond .eq 25, 3) := by decide +kernel
theorem d_M_apart_151 : decode b_M_apart 151 = .ok (.iinc 6 (-1), 3) := by decide +kernel
theorem d_M_apart_154 : decode b_M_apart 154 = .ok (.iload 6, 2) := by decide +kernel
theorem d_M_apart_156 : decode b_M_apart 156 = .ok (.ifCond .lt 200, 3) := by decide +kernel
theorem d_M_apart_159 : decode b_M_apart 159 = .ok (.aload_n 0, 1) := by decide +kernel
theorem d_M_apart_160 : decode b_M_apart 160 = .ok (.getfield 57, 3) := by decide +kernel
theorem d_M_apart_163 : decode b_M_apart 163 = .ok (.iload 6, 2) := by decide +kernel
theorem d_M_apart_165 : decode b_M_apart 165 = .ok (.dup2, 1) := by decide +kernel
theorem d_M_apart_166 : decode b_M_apart 166 = .ok (.iaload, 1) := by decide +kernel
theorem d_M_apart_167 : decode b_M_apart 167 = .ok (.iconst 1, 1) := by decide +kernel
theorem d_M_apart_168 : decode b_M_apart 168 = .ok (.iadd, 1) := by decide +kernel
theorem d_M_apart_169 : decode b_M_apart 169 = .ok (.iastore, 1) := by decide +kernel
theorem d_M_apart_170 : decode b_M_apart 170 = .ok (.goto 186, 3) := by decide +kernel
theorem d_M_apart_173 : decode b_M_apart 173 = .ok (.aload_n 0, 1) := by decide +kernel
theorem d_M_apart_174 : decode b_M_apart 174 = .ok (.getfield 39, 3) := by decide +kernel
theorem d_M_apart_177 : decode b_M_apart 177 = .ok (.iload 7, 2) := by decide +kernel
theorem d_M_apart_179 : decode b_M_apart 179 = .ok (.iaload, 1) := by decide +kernel
theorem d_M_apart_180 : decode b_M_apart 180 = .ok (.aload_n 0, 1) := by decide +kernel
theorem d_M_apart_181 : decode b_M_apart 181 = .ok (.getfield 63, 3) := by decide +kernel
theorem d_M_apart_184 : decode b_M_apart 184 = .ok (.iload 6, 2) := by decide +kernel
theorem d_M_apart_186 : decode b_M_apart 186 = .ok (.iaload, 1) := by decide +kernel
theorem d_M_apart_187 : decode b_M_apart 187 = .ok (.iand, 1) := by decide +kernel
theorem d_M_apart_188 : decode b_M_apart 188 = .ok (.ifCond .ne 27, 3) := by decide +kernel
theorem d_M_apart_191 : decode b_M_apart 191 = .ok (.iload 4, 2) := by decide +kernel
theorem d_M_apart_193 : decode b_M_apart 193 = .ok (.iconst 1, 1) := by decide +kernel
theorem d_M_apart_194 : decode b_M_apart 194 = .ok (.if_icmp .ne 35, 3) := by decide +kernel
theorem d_M_apart_197 : decode b_M_apart 197 = .ok (.aload_n 0, 1) := by decide +kernel
theorem d_M_apart_198 : decode b_M_apart 198 = .ok (.getfield 42, 3) := by decide +kernel
theorem d_M_apart_201 : decode b_M_apart 201 = .ok (.iload 7, 2) := by decide +kernel
theorem d_M_apart_203 : decode b_M_apart 203 = .ok (.iaload, 1) := by decide +kernel
theorem d_M_apart_204 : decode b_M_apart 204 = .ok (.aload_n 0, 1) := by decide +kernel
theorem d_M_apart_205 : decode b_M_apart 205 = .ok (.getfield 66, 3) := by decide +kernel
theorem d_M_apart_208 : decode b_M_apart 208 = .ok (.iload 6, 2) := by decide +kernel
theorem d_M_apart_210 : decode b_M_apart 210 = .ok (.iaload, 1) := by decide +kernel
theorem d_M_apart_211 : decode b_M_apart 211 = .ok (.iand, 1) := by decide +kernel
theorem d_M_apart_212 : decode b_M_apart 212 = .ok (.ifCond .eq 17, 3) := by decide +kernel
theorem d_M_apart_215 : decode b_M_apart 215 = .ok (.aload_n 0, 1) := by decide +kernel
theorem d_M_apart_216 : decode b_M_apart 216 = .ok (.getfield 57, 3) := by decide +kernel
theorem d_M_apart_219 : decode b_M_apart 219 = .ok (.iload 6, 2) := by decide +kernel
theorem d_M_apart_221 : decode b_M_apart 221 = .ok (.dup2, 1) := by decide +kernel
theorem d_M_apart_222 : decode b_M_apart 222 = .ok (.iaload, 1) := by decide +kernel
theorem d_M_apart_223 : decode b_M_apart 223 = .ok (.iconst 1, 1) := by decide +kernel
theorem d_M_apart_224 : decode b_M_apart 224 = .ok (.iadd, 1) := by decide +kernel
theorem d_M_apart_225 : decode b_M_apart 225 = .ok (.iastore, 1) := by decide +kernel
theorem d_M_apart_226 : decode b_M_apart 226 = .ok (.goto 130, 3) := by decide +kernel
theorem d_M_apart_229 : decode b_M_apart 229 = .ok (.iload 6, 2) := by decide +kernel
theorem d_M_apart_231 : decode b_M_apart 231 = .ok (.iload_n 3, 1) := by decide +kernel
theorem d_M_apart_232 : decode b_M_apart 232 = .ok (.iconst 1, 1) := by decide +kernel
theorem d_M_apart_233 : decode b_M_apart 233 = .ok (.isub, 1) := by decide +kernel
theorem d_M_apart_234 : decode b_M_apart 234 = .ok (.if_icmp .ne 34, 3) := by decide +kernel
theorem d_M_apart_237 : decode b_M_apart 237 = .ok (.aload_n 0, 1) := by decide +kernel
theorem d_M_apart_238 : decode b_M_apart 238 = .ok (.getfield 60, 3) := by decide +kernel
theorem d_M_apart_241 : decode b_M_apart 241 = .ok (.iload 6, 2) := by decide +kernel
theorem d_M_apart_243 : decode b_M_apart 243 = .ok (.iaload, 1) := by decide +kernel
theorem d_M_apart_244 : decode b_M_apart 244 = .ok (.aload_n 0, 1) := by decide +kernel
theorem d_M_apart_245 : decode b_M_apart 245 = .ok (.getfield 26, 3) := by decide +kernel
theorem d_M_apart_248 : decode b_M_apart 248 = .ok (.iload 7, 2) := by decide +kernel
theorem d_M_apart_250 : decode b_M_apart 250 = .ok (.iaload, 1) := by decide +kernel
theorem d_M_apart_251 : decode b_M_apart 251 = .ok (.iadd, 1) := by decide +kernel
theorem d_M_apart_252 : decode b_M_apart 252 = .ok (.istore 5, 2) := by decide +kernel
theorem d_M_apart_254 : decode b_M_apart 254 = .ok (.aload_n 0, 1) := by decide +kernel
theorem d_M_apart_255 : decode b_M_apart 255 = .ok (.getfield 57, 3) := by decide +kernel
theorem d_M_apart_258 : decode b_M_apart 258 = .ok (.iload 6, 2) := by decide +kernel
theorem d_M_apart_260 : decode b_M_apart 260 = .ok (.dup2, 1) := by decide +kernel
theorem d_M_apart_261 : decode b_M_apart 261 = .ok (.iaload, 1) := by decide +kernel
theorem d_M_apart_262 : decode b_M_apart 262 = .ok (.iconst 1, 1) := by decide +kernel
theorem d_M_apart_263 : decode b_M_apart 263 = .ok (.iadd, 1) := by decide +kernel
theorem d_M_apart_264 : decode b_M_apart 264 = .ok (.iastore, 1) := by decide +kernel
theorem d_M_apart_265 : decode b_M_apart 265 = .ok (.goto 91, 3) := by decide +kernel
theorem d_M_apart_268 : decode b_M_apart 268 = .ok (.aload_n 0, 1) := by decide +kernel
theorem d_M_apart_269 : decode b_M_apart 269 = .ok (.getfield 60, 3) := by decide +kernel
theorem d_M_apart_272 : decode b_M_apart 272 = .ok (.iload 6, 2) := by decide +kernel
theorem d_M_apart_274 : decode b_M_apart 274 = .ok (.iconst 1, 1) := by decide +kernel
theorem d_M_apart_275 : decode b_M_apart 275 = .ok (.iadd, 1) := by decide +kernel
theorem d_M_apart_276 : decode b_M_apart 276 = .ok (.aload_n 0, 1) := by decide +kernel
theorem d_M_apart_277 : decode b_M_apart 277 = .ok (.getfield 60, 3) := by decide +kernel
theorem d_M_apart_280 : decode b_M_apart 280 = .ok (.iload 6, 2) := by decide +kernel
theorem d_M_apart_282 : decode b_M_apart 282 = .ok (.iaload, 1) := by decide +kernel
theorem d_M_apart_283 : decode b_M_apart 283 = .ok (.aload_n 0, 1) := by decide +kernel
theorem d_M_apart_284 : decode b_M_apart 284 = .ok (.getfield 26, 3) := by decide +kernel
theorem d_M_apart_287 : decode b_M_apart 287 = .ok (.iload 7, 2) := by decide +kernel
theorem d_M_apart_289 : decode b_M_apart 289 = .ok (.iaload, 1) := by decide +kernel
theorem d_M_apart_290 : decode b_M_apart 290 = .ok (.iadd, 1) := by decide +kernel
theorem d_M_apart_291 : decode b_M_apart 291 = .ok (.iastore, 1) := by decide +kernel
theorem d_M_apart_292 : decode b_M_apart 292 = .ok (.aload_n 0, 1) := by decide +kernel
theorem d_M_apart_293 : decode b_M_apart 293 = .ok (.getfield 63, 3) := by decide +kernel
theorem d_M_apart_296 : decode b_M_apart 296 = .ok (.iload 6, 2) := by decide +kernel
theorem d_M_apart_298 : decode b_M_apart 298 = .ok (.iconst 1, 1) := by decide +kernel
theorem d_M_apart_299 : decode b_M_apart 299 = .ok (.iadd, 1) := by decide +kernel
theorem d_M_apart_300 : decode b_M_apart 300 = .ok (.aload_n 0, 1) := by decide +kernel
theorem d_M_apart_301 : decode b_M_apart 301 = .ok (.getfield 63, 3) := by decide +kernel
theorem d_M_apart_304 : decode b_M_apart 304 = .ok (.iload 6, 2) := by decide +kernel
theorem d_M_apart_306 : decode b_M_apart 306 = .ok (.iaload, 1) := by decide +kernel
theorem d_M_apart_307 : decode b_M_apart 307 = .ok (.aload_n 0, 1) := by decide +kernel
theorem d_M_apart_308 : decode b_M_apart 308 = .ok (.getfield 39, 3) := by decide +kernel
theorem d_M_apart_311 : decode b_M_apart 311 = .ok (.iload 7, 2) := by decide +kernel
theorem d_M_apart_313 : decode b_M_apart 313 = .ok (.iaload, 1) := by decide +kernel
theorem d_M_apart_314 : decode b_M_apart 314 = .ok (.ior, 1) := by decide +kernel
theorem d_M_apart_315 : decode b_M_apart 315 = .ok (.iastore, 1) := by decide +kernel
theorem d_M_apart_316 : decode b_M_apart 316 = .ok (.aload_n 0, 1) := by decide +kernel
theorem d_M_apart_317 : decode b_M_apart 317 = .ok (.getfield 66, 3) := by decide +kernel
theorem d_M_apart_320 : decode b_M_apart 320 = .ok (.iload 6, 2) := by decide +kernel
theorem d_M_apart_322 : decode b_M_apart 322 = .ok (.iconst 1, 1) := by decide +kernel
theorem d_M_apart_323 : decode b_M_apart 323 = .ok (.iadd, 1) := by decide +kernel
theorem d_M_apart_324 : decode b_M_apart 324 = .ok (.aload_n 0, 1) := by decide +kernel
theorem d_M_apart_325 : decode b_M_apart 325 = .ok (.getfield 66, 3) := by decide +kernel
theorem d_M_apart_328 : decode b_M_apart 328 = .ok (.iload 6, 2) := by decide +kernel
theorem d_M_apart_330 : decode b_M_apart 330 = .ok (.iaload, 1) := by decide +kernel
theorem d_M_apart_331 : decode b_M_apart 331 = .ok (.aload_n 0, 1) := by decide +kernel
theorem d_M_apart_332 : decode b_M_apart 332 = .ok (.getfield 42, 3) := by decide +kernel
theorem d_M_apart_335 : decode b_M_apart 335 = .ok (.iload 7, 2) := by decide +kernel
theorem d_M_apart_337 : decode b_M_apart 337 = .ok (.iaload, 1) := by decide +kernel
theorem d_M_apart_338 : decode b_M_apart 338 = .ok (.ior, 1) := by decide +kernel
theorem d_M_apart_339 : decode b_M_apart 339 = .ok (.iastore, 1) := by decide +kernel
theorem d_M_apart_340 : decode b_M_apart 340 = .ok (.aload_n 0, 1) := by decide +kernel
theorem d_M_apart_341 : decode b_M_apart 341 = .ok (.getfield 57, 3) := by decide +kernel
theorem d_M_apart_344 : decode b_M_apart 344 = .ok (.iload 6, 2) := by decide +kernel
theorem d_M_apart_346 : decode b_M_apart 346 = .ok (.iconst 1, 1) := by decide +kernel
theorem d_M_apart_347 : decode b_M_apart 347 = .ok (.iadd, 1) := by decide +kernel
theorem d_M_apart_348 : decode b_M_apart 348 = .ok (.iload 7, 2) := by decide +kernel
theorem d_M_apart_350 : decode b_M_apart 350 = .ok (.iconst 1, 1) := by decide +kernel
theorem d_M_apart_351 : decode b_M_apart 351 = .ok (.iadd, 1) := by decide +kernel
theorem d_M_apart_352 : decode b_M_apart 352 = .ok (.iastore, 1) := by decide +kernel
theorem d_M_apart_353 : decode b_M_apart 353 = .ok (.iinc 6 1, 3) := by decide +kernel
theorem d_M_apart_356 : decode b_M_apart 356 = .ok (.goto (-271), 3) := by decide +kernel
theorem d_M_apart_359 : decode b_M_apart 359 = .ok (.iload 5, 2) := by decide +kernel
theorem d_M_apart_361 : decode b_M_apart 361 = .ok (.ireturn, 1) := by decide +kernel
theorem d_M_out_0 : decode b_M_out 0 = .ok (.iconst 0, 1) := by decide +kernel
theorem d_M_out_1 : decode b_M_out 1 = .ok (.istore_n 2, 1) := by decide +kernel
theorem d_M_out_2 : decode b_M_out 2 = .ok (.iconst 0, 1) := by decide +kernel
theorem d_M_out_3 : decode b_M_out 3 = .ok (.istore_n 3, 1) := by decide +kernel
theorem d_M_out_4 : decode b_M_out 4 = .ok (.iload_n 3, 1) := by decide +kernel
theorem d_M_out_5 : decode b_M_out 5 = .ok (.aload_n 0, 1) := by decide +kernel
theorem d_M_out_6 : decode b_M_out 6 = .ok (.getfield 73, 3) := by decide +kernel
theorem d_M_out_9 : decode b_M_out 9 = .ok (.if_icmp .ge 53, 3) := by decide +kernel
theorem d_M_out_12 : decode b_M_out 12 = .ok (.iload_n 2, 1) := by decide +kernel
theorem d_M_out_13 : decode b_M_out 13 = .ok (.aload_n 0, 1) := by decide +kernel
theorem d_M_out_14 : decode b_M_out 14 = .ok (.getfield 22, 3) := by decide +kernel
theorem d_M_out_17 : decode b_M_out 17 = .ok (.iload_n 3, 1) := by decide +kernel
theorem d_M_out_18 : decode b_M_out 18 = .ok (.baload, 1) := by decide +kernel
theorem d_M_out_19 : decode b_M_out 19 = .ok (.ifCond .ne 34, 3) := by decide +kernel
theorem d_M_out_22 : decode b_M_out 22 = .ok (.iload_n 1, 1) := by decide +kernel
theorem d_M_out_23 : decode b_M_out 23 = .ok (.aload_n 0, 1) := by decide +kernel
theorem d_M_out_24 : decode b_M_out 24 = .ok (.getfield 7, 3) := by decide +kernel
theorem d_M_out_27 : decode b_M_out 27 = .ok (.iload_n 3, 1) := by decide +kernel
theorem d_M_out_28 : decode b_M_out 28 = .ok (.iaload, 1) := by decide +kernel
theorem d_M_out_29 : decode b_M_out 29 = .ok (.ishr, 1) := by decide +kernel
theorem d_M_out_30 : decode b_M_out 30 = .ok (.iconst 1, 1) := by decide +kernel
theorem d_M_out_31 : decode b_M_out 31 = .ok (.iand, 1) := by decide +kernel
theorem d_M_out_32 : decode b_M_out 32 = .ok (.iconst 1, 1) := by decide +kernel
theorem d_M_out_33 : decode b_M_out 33 = .ok (.if_icmp .ne 20, 3) := by decide +kernel
theorem d_M_out_36 : decode b_M_out 36 = .ok (.iload_n 1, 1) := by decide +kernel
theorem d_M_out_37 : decode b_M_out 37 = .ok (.aload_n 0, 1) := by decide +kernel
theorem d_M_out_38 : decode b_M_out 38 = .ok (.getfield 13, 3) := by decide +kernel
theorem d_M_out_41 : decode b_M_out 41 = .ok (.iload_n 3, 1) := by decide +kernel
theorem d_M_out_42 : decode b_M_out 42 = .ok (.iaload, 1) := by decide +kernel
theorem d_M_out_43 : decode b_M_out 43 = .ok (.ishr, 1) := by decide +kernel
theorem d_M_out_44 : decode b_M_out 44 = .ok (.iconst 1, 1) := by decide +kernel
theorem d_M_out_45 : decode b_M_out 45 = .ok (.iand, 1) := by decide +kernel
theorem d_M_out_46 : decode b_M_out 46 = .ok (.ifCond .ne 7, 3) := by decide +kernel
theorem d_M_out_49 : decode b_M_out 49 = .ok (.iconst 1, 1) := by decide +kernel
theorem d_M_out_50 : decode b_M_out 50 = .ok (.goto 4, 3) := by decide +kernel
theorem d_M_out_53 : decode b_M_out 53 = .ok (.iconst 0, 1) := by decide +kernel
theorem d_M_out_54 : decode b_M_out 54 = .ok (.iadd, 1) := by decide +kernel
theorem d_M_out_55 : decode b_M_out 55 = .ok (.istore_n 2, 1) := by decide +kernel
theorem d_M_out_56 : decode b_M_out 56 = .ok (.iinc 3 1, 3) := by decide +kernel
theorem d_M_out_59 : decode b_M_out 59 = .ok (.goto (-55), 3) := by decide +kernel
theorem d_M_out_62 : decode b_M_out 62 = .ok (.iload_n 2, 1) := by decide +kernel
theorem d_M_out_63 : decode b_M_out 63 = .ok (.ireturn, 1) := by decide +kernel
theorem d_M_isJoined_0 : decode b_M_isJoined 0 = .ok (.iconst 1, 1) := by decide +kernel
theorem d_M_isJoined_1 : decode b_M_isJoined 1 = .ok (.iload_n 1, 1) := by decide +kernel
theorem d_M_isJoined_2 : decode b_M_isJoined 2 = .ok (.ishl, 1) := by decide +kernel
theorem d_M_isJoined_3 : decode b_M_isJoined 3 = .ok (.istore 4, 2) := by decide +kernel
theorem d_M_isJoined_5 : decode b_M_isJoined 5 = .ok (.iconst 0, 1) := by decide +kernel
theorem d_M_isJoined_6 : decode b_M_isJoined 6 = .ok (.istore 5, 2) := by decide +kernel
theorem d_M_isJoined_8 : decode b_M_isJoined 8 = .ok (.iload 4, 2) := by decide +kernel
theorem d_M_isJoined_10 : decode b_M_isJoined 10 = .ok (.iload 5, 2) := by decide +kernel
theorem d_M_isJoined_12 : decode b_M_isJoined 12 = .ok (.if_icmp .eq 120, 3) := by decide +kernel
theorem d_M_isJoined_15 : decode b_M_isJoined 15 = .ok (.iload 4, 2) := by decide +kernel
theorem d_M_isJoined_17 : decode b_M_isJoined 17 = .ok (.istore 5, 2) := by decide +kernel
theorem d_M_isJoined_19 : decode b_M_isJoined 19 = .ok (.iconst 0, 1) := by decide +kernel
theorem d_M_isJoined_20 : decode b_M_isJoined 20 = .ok (.istore 6, 2) := by decide +kernel
theorem d_M_isJoined_22 : decode b_M_isJoined 22 = .ok (.iload 6, 2) := by decide +kernel
theorem d_M_isJoined_24 : decode b_M_isJoined 24 = .ok (.aload_n 0, 1) := by decide +kernel
theorem d_M_isJoined_25 : decode b_M_isJoined 25 = .ok (.getfield 73, 3) := by decide +kernel
theorem d_M_isJoined_28 : decode b_M_isJoined 28 = .ok (.if_icmp .ge 101, 3) := by decide +kernel
theorem d_M_isJoined_31 : decode b_M_isJoined 31 = .ok (.aload_n 0, 1) := by decide +kernel
theorem d_M_isJoined_32 : decode b_M_isJoined 32 = .ok (.getfield 22, 3) := by decide +kernel
theorem d_M_isJoined_35 : decode b_M_isJoined 35 = .ok (.iload 6, 2) := by decide +kernel
theorem d_M_isJoined_37 : decode b_M_isJoined 37 = .ok (.baload, 1) := by decide +kernel
theorem d_M_isJoined_38 : decode b_M_isJoined 38 = .ok (.ifCond .ne 59, 3) := by decide +kernel
theorem d_M_isJoined_41 : decode b_M_isJoined 41 = .ok (.iload 4, 2) := by decide +kernel
theorem d_M_isJoined_43 : decode b_M_isJoined 43 = .ok (.aload_n 0, 1) := by decide +kernel
theorem d_M_isJoined_44 : decode b_M_isJoined 44 = .ok (.getfield 7, 3) := by decide +kernel
theorem d_M_isJoined_47 : decode b_M_isJoined 47 = .ok (.iload 6, 2) := by decide +kernel
theorem d_M_isJoined_49 : decode b_M_isJoined 49 = .ok (.iaload, 1) := by decide +kernel
theorem d_M_isJoined_50 : decode b_M_isJoined 50 = .ok (.ishr, 1) := by decide +kernel
theorem d_M_isJoined_51 : decode b_M_isJoined 51 = .ok (.iconst 1, 1) := by decide +kernel
theorem d_M_isJoined_52 : decode b_M_isJoined 52 = .ok (.iand, 1) := by decide +kernel
theorem d_M_isJoined_53 : decode b_M_isJoined 53 = .ok (.iconst 1, 1) := by decide +kernel
theorem d_M_isJoined_54 : decode b_M_isJoined 54 = .ok (.if_icmp .ne 43, 3) := by decide +kernel
theorem d_M_isJoined_57 : decode b_M_isJoined 57 = .ok (.iload_n 3, 1) := by decide +kernel
theorem d_M_isJoined_58 : decode b_M_isJoined 58 = .ok (.aload_n 0, 1) := by decide +kernel
theorem d_M_isJoined_59 : decode b_M_isJoined 59 = .ok (.getfield 13, 3) := by decide +kernel
theorem d_M_isJoined_62 : decode b_M_isJoined 62 = .ok (.iload 6, 2) := by decide +kernel
theorem d_M_isJoined_64 : decode b_M_isJoined 64 = .ok (.iaload, 1) := by decide +kernel
theorem d_M_isJoined_65 : decode b_M_isJoined 65 = .ok (.ishr, 1) := by decide +kernel
theorem d_M_isJoined_66 : decode b_M_isJoined 66 = .ok (.iconst 1, 1) := by decide +kernel
theorem d_M_isJoined_67 : decode b_M_isJoined 67 = .ok (.iand, 1) := by decide +kernel
theorem d_M_isJoined_68 : decode b_M_isJoined 68 = .ok (.ifCond .ne 29, 3) := by decide +kernel
theorem d_M_isJoined_71 : decode b_M_isJoined 71 = .ok (.aload_n 0, 1) := by decide +kernel
theorem d_M_isJoined_72 : decode b_M_isJoined 72 = .ok (.getfield 7, 3) := by decide +kernel
theorem d_M_isJoined_75 : decode b_M_isJoined 75 = .ok (.iload 6, 2) := by decide +kernel
theorem d_M_isJoined_77 : decode b_M_isJoined 77 = .ok (.iaload, 1) := by decide +kernel
theorem d_M_isJoined_78 : decode b_M_isJoined 78 = .ok (.iload_n 1, 1) := by decide +kernel
theorem d_M_isJoined_79 : decode b_M_isJoined 79 = .ok (.if_icmp .ne 14, 3) := by decide +kernel
theorem d_M_isJoined_82 : decode b_M_isJoined 82 = .ok (.aload_n 0, 1) := by decide +kernel
theorem d_M_isJoined_83 : decode b_M_isJoined 83 = .ok (.getfield 13, 3) := by decide +kernel
theorem d_M_isJoined_86 : decode b_M_isJoined 86 = .ok (.iload 6, 2) := by decide +kernel
theorem d_M_isJoined_88 : decode b_M_isJoined 88 = .ok (.iaload, 1) := by decide +kernel
theorem d_M_isJoined_89 : decode b_M_isJoined 89 = .ok (.iload_n 2, 1) := by decide +kernel
theorem d_M_isJoined_90 : decode b_M_isJoined 90 = .ok (.if_icmp .eq 7, 3) := by decide +kernel
theorem d_M_isJoined_93 : decode b_M_isJoined 93 = .ok (.iconst 1, 1) := by decide +kernel
theorem d_M_isJoined_94 : decode b_M_isJoined 94 = .ok (.goto 4, 3) := by decide +kernel
theorem d_M_isJoined_97 : decode b_M_isJoined 97 = .ok (.iconst 0, 1) := by decide +kernel
theorem d_M_isJoined_98 : decode b_M_isJoined 98 = .ok (.istore 7, 2) := by decide +kernel
theorem d_M_isJoined_100 : decode b_M_isJoined 100 = .ok (.iload 4, 2) := by decide +kernel
theorem d_M_isJoined_102 : decode b_M_isJoined 102 = .ok (.iload 7, 2) := by decide +kernel
theorem d_M_isJoined_104 : decode b_M_isJoined 104 = .ok (.ifCond .eq 15, 3) := by decide +kernel
theorem d_M_isJoined_107 : decode b_M_isJoined 107 = .ok (.iconst 1, 1) := by decide +kernel
theorem d_M_isJoined_108 : decode b_M_isJoined 108 = .ok (.aload_n 0, 1) := by decide +kernel
theorem d_M_isJoined_109 : decode b_M_isJoined 109 = .ok (.getfield 13, 3) := by decide +kernel
theorem d_M_isJoined_112 : decode b_M_isJoined 112 = .ok (.iload 6, 2) := by decide +kernel
theorem d_M_isJoined_114 : decode b_M_isJoined 114 = .ok (.iaload, 1) := by decide +kernel
theorem d_M_isJoined_115 : decode b_M_isJoined 115 = .ok (.ishl, 1) := by decide +kernel
theorem d_M_isJoined_116 : decode b_M_isJoined 116 = .ok (.goto 4, 3) := by decide +kernel
theorem d_M_isJoined_119 : decode b_M_isJoined 119 = .ok (.iconst 0, 1) := by decide +kernel
theorem d_M_isJoined_120 : decode b_M_isJoined 120 = .ok (.ior, 1) := by decide +kernel
theorem d_M_isJoined_121 : decode b_M_isJoined 121 = .ok (.istore 4, 2) := by decide +kernel
theorem d_M_isJoined_123 : decode b_M_isJoined 123 = .ok (.iinc 6 1, 3) := by decide +kernel
theorem d_M_isJoined_126 : decode b_M_isJoined 126 = .ok (.goto (-104), 3) := by decide +kernel
theorem d_M_isJoined_129 : decode b_M_isJoined 129 = .ok (.goto (-121), 3) := by decide +kernel
theorem d_M_isJoined_132 : decode b_M_isJoined 132 = .ok (.iload 4, 2) := by decide +kernel
theorem d_M_isJoined_134 : decode b_M_isJoined 134 = .ok (.iload_n 2, 1) := by decide +kernel
theorem d_M_isJoined_135 : decode b_M_isJoined 135 = .ok (.ishr, 1) := by decide +kernel
theorem d_M_isJoined_136 : decode b_M_isJoined 136 = .ok (.iconst 1, 1) := by decide +kernel
theorem d_M_isJoined_137 : decode b_M_isJoined 137 = .ok (.iand, 1) := by decide +kernel
theorem d_M_isJoined_138 : decode b_M_isJoined 138 = .ok (.iconst 1, 1) := by decide +kernel
theorem d_M_isJoined_139 : decode b_M_isJoined 139 = .ok (.if_icmp .ne 7, 3) := by decide +kernel
theorem d_M_isJoined_142 : decode b_M_isJoined 142 = .ok (.iconst 1, 1) := by decide +kernel
theorem d_M_isJoined_143 : decode b_M_isJoined 143 = .ok (.goto 4, 3) := by decide +kernel
theorem d_M_isJoined_146 : decode b_M_isJoined 146 = .ok (.iconst 0, 1) := by decide +kernel
theorem d_M_isJoined_147 : decode b_M_isJoined 147 = .ok (.ireturn, 1) := by decide +kernel
theorem d_M_many_0 : decode b_M_many 0 = .ok (.iconst 0, 1) := by decide +kernel
theorem d_M_many_1 : decode b_M_many 1 = .ok (.istore_n 1, 1) := by decide +kernel
theorem d_M_many_2 : decode b_M_many 2 = .ok (.iconst 0, 1) := by decide +kernel
theorem d_M_many_3 : decode b_M_many 3 = .ok (.istore_n 2, 1) := by decide +kernel
theorem d_M_many_4 : decode b_M_many 4 = .ok (.iload_n 2, 1) := by decide +kernel
theorem d_M_many_5 : decode b_M_many 5 = .ok (.bipush 8, 2) := by decide +kernel
theorem d_M_many_7 : decode b_M_many 7 = .ok (.if_icmp .ge 17, 3) := by decide +kernel
theorem d_M_many_10 : decode b_M_many 10 = .ok (.iload_n 1, 1) := by decide +kernel
theorem d_M_many_11 : decode b_M_many 11 = .ok (.iload_n 0, 1) := by decide +kernel
theorem d_M_many_12 : decode b_M_many 12 = .ok (.iload_n 2, 1) := by decide +kernel
theorem d_M_many_13 : decode b_M_many 13 = .ok (.ishr, 1) := by decide +kernel
theorem d_M_many_14 : decode b_M_many 14 = .ok (.iconst 1, 1) := by decide +kernel
theorem d_M_many_15 : decode b_M_many 15 = .ok (.iand, 1) := by decide +kernel
theorem d_M_many_16 : decode b_M_many 16 = .ok (.iadd, 1) := by decide +kernel
theorem d_M_many_17 : decode b_M_many 17 = .ok (.istore_n 1, 1) := by decide +kernel
theorem d_M_many_18 : decode b_M_many 18 = .ok (.iinc 2 1, 3) := by decide +kernel
theorem d_M_many_21 : decode b_M_many 21 = .ok (.goto (-17), 3) := by decide +kernel
theorem d_M_many_24 : decode b_M_many 24 = .ok (.iload_n 1, 1) := by decide +kernel
theorem d_M_many_25 : decode b_M_many 25 = .ok (.ireturn, 1) := by decide +kernel
theorem d_M_most_0 : decode b_M_most 0 = .ok (.aload_n 0, 1) := by decide +kernel
theorem d_M_most_1 : decode b_M_most 1 = .ok (.iload_n 1, 1) := by decide +kernel
theorem d_M_most_2 : decode b_M_most 2 = .ok (.iload_n 2, 1) := by decide +kernel
theorem d_M_most_3 : decode b_M_most 3 = .ok (.invokevirtual 91, 3) := by decide +kernel
theorem d_M_most_6 : decode b_M_most 6 = .ok (.ifCond .eq 12, 3) := by decide +kernel
theorem d_M_most_9 : decode b_M_most 9 = .ok (.iload_n 3, 1) := by decide +kernel
theorem d_M_most_10 : decode b_M_most 10 = .ok (.iconst 0, 1) := by decide +kernel
theorem d_M_most_11 : decode b_M_most 11 = .ok (.iconst 1, 1) := by decide +kernel
theorem d_M_most_12 : decode b_M_most 12 = .ok (.invokestatic 83, 3) := by decide +kernel
theorem d_M_most_15 : decode b_M_most 15 = .ok (.ifCond .ne 6, 3) := by decide +kernel
theorem d_M_most_18 : decode b_M_most 18 = .ok (.bipush (-2), 2) := by decide +kernel
theorem d_M_most_20 : decode b_M_most 20 = .ok (.ireturn, 1) := by decide +kernel
theorem d_M_most_21 : decode b_M_most 21 = .ok (.bipush 20, 2) := by decide +kernel
theorem d_M_most_23 : decode b_M_most 23 = .ok (.istore 4, 2) := by decide +kernel
theorem d_M_most_25 : decode b_M_most 25 = .ok (.iconst 0, 1) := by decide +kernel
theorem d_M_most_26 : decode b_M_most 26 = .ok (.istore 5, 2) := by decide +kernel
theorem d_M_most_28 : decode b_M_most 28 = .ok (.iconst 0, 1) := by decide +kernel
theorem d_M_most_29 : decode b_M_most 29 = .ok (.istore 6, 2) := by decide +kernel
theorem d_M_most_31 : decode b_M_most 31 = .ok (.iload 6, 2) := by decide +kernel
theorem d_M_most_33 : decode b_M_most 33 = .ok (.aload_n 0, 1) := by decide +kernel
theorem d_M_most_34 : decode b_M_most 34 = .ok (.getfield 73, 3) := by decide +kernel
theorem d_M_most_37 : decode b_M_most 37 = .ok (.if_icmp .ge 51, 3) := by decide +kernel
theorem d_M_most_40 : decode b_M_most 40 = .ok (.iload 5, 2) := by decide +kernel
theorem d_M_most_42 : decode b_M_most 42 = .ok (.aload_n 0, 1) := by decide +kernel
theorem d_M_most_43 : decode b_M_most 43 = .ok (.getfield 22, 3) := by decide +kernel
theorem d_M_most_46 : decode b_M_most 46 = .ok (.iload 6, 2) := by decide +kernel
theorem d_M_most_48 : decode b_M_most 48 = .ok (.baload, 1) := by decide +kernel
theorem d_M_most_49 : decode b_M_most 49 = .ok (.ifCond .ne 29, 3) := by decide +kernel
theorem d_M_most_52 : decode b_M_most 52 = .ok (.aload_n 0, 1) := by decide +kernel
theorem d_M_most_53 : decode b_M_most 53 = .ok (.getfield 7, 3) := by decide +kernel
theorem d_M_most_56 : decode b_M_most 56 = .ok (.iload 6, 2) := by decide +kernel
theorem d_M_most_58 : decode b_M_most 58 = .ok (.iaload, 1) := by decide +kernel
theorem d_M_most_59 : decode b_M_most 59 = .ok (.iload_n 1, 1) := by decide +kernel
theorem d_M_most_60 : decode b_M_most 60 = .ok (.if_icmp .ne 18, 3) := by decide +kernel
theorem d_M_most_63 : decode b_M_most 63 = .ok (.aload_n 0, 1) := by decide +kernel
theorem d_M_most_64 : decode b_M_most 64 = .ok (.getfield 13, 3) := by decide +kernel
theorem d_M_most_67 : decode b_M_most 67 = .ok (.iload 6, 2) := by decide +kernel
theorem d_M_most_69 : decode b_M_most 69 = .ok (.iaload, 1) := by decide +kernel
theorem d_M_most_70 : decode b_M_most 70 = .ok (.iload_n 2, 1) := by decide +kernel
theorem d_M_most_71 : decode b_M_most 71 = .ok (.if_icmp .ne 7, 3) := by decide +kernel
theorem d_M_most_74 : decode b_M_most 74 = .ok (.iconst 1, 1) := by decide +kernel
theorem d_M_most_75 : decode b_M_most 75 = .ok (.goto 4, 3) := by decide +kernel
theorem d_M_most_78 : decode b_M_most 78 = .ok (.iconst 0, 1) := by decide +kernel
theorem d_M_most_79 : decode b_M_most 79 = .ok (.iadd, 1) := by decide +kernel
theorem d_M_most_80 : decode b_M_most 80 = .ok (.istore 5, 2) := by decide +kernel
theorem d_M_most_82 : decode b_M_most 82 = .ok (.iinc 6 1, 3) := by decide +kernel
theorem d_M_most_85 : decode b_M_most 85 = .ok (.goto (-54), 3) := by decide +kernel
theorem d_M_most_88 : decode b_M_most 88 = .ok (.iconst 0, 1) := by decide +kernel
theorem d_M_most_89 : decode b_M_most 89 = .ok (.istore 6, 2) := by decide +kernel
theorem d_M_most_91 : decode b_M_most 91 = .ok (.iload 6, 2) := by decide +kernel
theorem d_M_most_93 : decode b_M_most 93 = .ok (.iconst 1, 1) := by decide +kernel
theorem d_M_most_94 : decode b_M_most 94 = .ok (.aload_n 0, 1) := by decide +kernel
theorem d_M_most_95 : decode b_M_most 95 = .ok (.getfield 69, 3) := by decide +kernel
theorem d_M_most_98 : decode b_M_most 98 = .ok (.ishl, 1) := by decide +kernel
theorem d_M_most_99 : decode b_M_most 99 = .ok (.if_icmp .ge 118, 3) := by decide +kernel
theorem d_M_most_102 : decode b_M_most 102 = .ok (.iload_n 3, 1) := by decide +kernel
theorem d_M_most_103 : decode b_M_most 103 = .ok (.ifCond .ne 46, 3) := by decide +kernel
theorem d_M_most_106 : decode b_M_most 106 = .ok (.iload 6, 2) := by decide +kernel
theorem d_M_most_108 : decode b_M_most 108 = .ok (.iload_n 1, 1) := by decide +kernel
theorem d_M_most_109 : decode b_M_most 109 = .ok (.ishr, 1) := by decide +kernel
theorem d_M_most_110 : decode b_M_most 110 = .ok (.iconst 1, 1) := by decide +kernel
theorem d_M_most_111 : decode b_M_most 111 = .ok (.iand, 1) := by decide +kernel
theorem d_M_most_112 : decode b_M_most 112 = .ok (.iconst 1, 1) := by decide +kernel
theorem d_M_most_113 : decode b_M_most 113 = .ok (.if_icmp .ne 36, 3) := by decide +kernel
theorem d_M_most_116 : decode b_M_most 116 = .ok (.iload 6, 2) := by decide +kernel
theorem d_M_most_118 : decode b_M_most 118 = .ok (.iload_n 2, 1) := by decide +kernel
theorem d_M_most_119 : decode b_M_most 119 = .ok (.ishr, 1) := by decide +kernel
theorem d_M_most_120 : decode b_M_most 120 = .ok (.iconst 1, 1) := by decide +kernel
theorem d_M_most_121 : decode b_M_most 121 = .ok (.iand, 1) := by decide +kernel
theorem d_M_most_122 : decode b_M_most 122 = .ok (.ifCond .ne 27, 3) := by decide +kernel
theorem d_M_most_125 : decode b_M_most 125 = .ok (.aload_n 0, 1) := by decide +kernel
theorem d_M_most_126 : decode b_M_most 126 = .ok (.iload 6, 2) := by decide +kernel
theorem d_M_most_128 : decode b_M_most 128 = .ok (.invokevirtual 134, 3) := by decide +kernel
theorem d_M_most_131 : decode b_M_most 131 = .ok (.iload 4, 2) := by decide +kernel
theorem d_M_most_133 : decode b_M_most 133 = .ok (.if_icmp .ge 12, 3) := by decide +kernel
theorem d_M_most_136 : decode b_M_most 136 = .ok (.aload_n 0, 1) := by decide +kernel
theorem d_M_most_137 : decode b_M_most 137 = .ok (.iload 6, 2) := by decide +kernel
theorem d_M_most_139 : decode b_M_most 139 = .ok (.invokevirtual 134, 3) := by decide +kernel
theorem d_M_most_142 : decode b_M_most 142 = .ok (.goto 5, 3) := by decide +kernel
theorem d_M_most_145 : decode b_M_most 145 = .ok (.iload 4, 2) := by decide +kernel
theorem d_M_most_147 : decode b_M_most 147 = .ok (.istore 4, 2) := by decide +kernel
theorem d_M_most_149 : decode b_M_most 149 = .ok (.iload_n 3, 1) := by decide +kernel
theorem d_M_most_150 : decode b_M_most 150 = .ok (.iconst 1, 1) := by decide +kernel
theorem d_M_most_151 : decode b_M_most 151 = .ok (.if_icmp .ne 60, 3) := by decide +kernel
theorem d_M_most_154 : decode b_M_most 154 = .ok (.iload 6, 2) := by decide +kernel
theorem d_M_most_156 : decode b_M_most 156 = .ok (.iload_n 1, 1) := by decide +kernel
theorem d_M_most_157 : decode b_M_most 157 = .ok (.ishr, 1) := by decide +kernel
theorem d_M_most_158 : decode b_M_most 158 = .ok (.iconst 1, 1) := by decide +kernel
theorem d_M_most_159 : decode b_M_most 159 = .ok (.iand, 1) := by decide +kernel
theorem d_M_most_160 : decode b_M_most 160 = .ok (.ifCond .ne 51, 3) := by decide +kernel
theorem d_M_most_163 : decode b_M_most 163 = .ok (.iload 6, 2) := by decide +kernel
theorem d_M_most_165 : decode b_M_most 165 = .ok (.iload_n 2, 1) := by decide +kernel
theorem d_M_most_166 : decode b_M_most 166 = .ok (.ishr, 1) := by decide +kernel
theorem d_M_most_167 : decode b_M_most 167 = .ok (.iconst 1, 1) := by decide +kernel
theorem d_M_most_168 : decode b_M_most 168 = .ok (.iand, 1) := by decide +kernel
theorem d_M_most_169 : decode b_M_most 169 = .ok (.ifCond .ne 42, 3) := by decide +kernel
theorem d_M_most_172 : decode b_M_most 172 = .ok (.aload_n 0, 1) := by decide +kernel
theorem d_M_most_173 : decode b_M_most 173 = .ok (.iload_n 1, 1) := by decide +kernel
theorem d_M_most_174 : decode b_M_most 174 = .ok (.iload_n 2, 1) := by decide +kernel
theorem d_M_most_175 : decode b_M_most 175 = .ok (.iload 6, 2) := by decide +kernel
theorem d_M_most_177 : decode b_M_most 177 = .ok (.invokevirtual 137, 3) := by decide +kernel
theorem d_M_most_180 : decode b_M_most 180 = .ok (.ifCond .ne 31, 3) := by decide +kernel
theorem d_M_most_183 : decode b_M_most 183 = .ok (.iload 5, 2) := by decide +kernel
theorem d_M_most_185 : decode b_M_most 185 = .ok (.iload 6, 2) := by decide +kernel
theorem d_M_most_187 : decode b_M_most 187 = .ok (.invokestatic 140, 3) := by decide +kernel
theorem d_M_most_190 : decode b_M_most 190 = .ok (.iadd, 1) := by decide +kernel
theorem d_M_most_191 : decode b_M_most 191 = .ok (.iload 4, 2) := by decide +kernel
theorem d_M_most_193 : decode b_M_most 193 = .ok (.if_icmp .ge 14, 3) := by decide +kernel
theorem d_M_most_196 : decode b_M_most 196 = .ok (.iload 5, 2) := by decide +kernel
theorem d_M_most_198 : decode b_M_most 198 = .ok (.iload 6, 2) := by decide +kernel
theorem d_M_most_200 : decode b_M_most 200 = .ok (.invokestatic 140, 3) := by decide +kernel
theorem d_M_most_203 : decode b_M_most 203 = .ok (.iadd, 1) := by decide +kernel
theorem d_M_most_204 : decode b_M_most 204 = .ok (.goto 5, 3) := by decide +kernel
theorem d_M_most_207 : decode b_M_most 207 = .ok (.iload 4, 2) := by decide +kernel
theorem d_M_most_209 : decode b_M_most 209 = .ok (.istore 4, 2) := by decide +kernel
theorem d_M_most_211 : decode b_M_most 211 = .ok (.iinc 6 1, 3) := by decide +kernel
theorem d_M_most_214 : decode b_M_most 214 = .ok (.goto (-123), 3) := by decide +kernel
theorem d_M_most_217 : decode b_M_most 217 = .ok (.iload 4, 2) := by decide +kernel
theorem d_M_most_219 : decode b_M_most 219 = .ok (.ireturn, 1) := by decide +kernel
theorem d_M_within_0 : decode b_M_within 0 = .ok (.aload_n 0, 1) := by decide +kernel
theorem d_M_within_1 : decode b_M_within 1 = .ok (.iload_n 1, 1) := by decide +kernel
theorem d_M_within_2 : decode b_M_within 2 = .ok (.iload_n 2, 1) := by decide +kernel
theorem d_M_within_3 : decode b_M_within 3 = .ok (.invokevirtual 91, 3) := by decide +kernel
theorem d_M_within_6 : decode b_M_within 6 = .ok (.ifCond .eq 14, 3) := by decide +kernel
theorem d_M_within_9 : decode b_M_within 9 = .ok (.iload_n 3, 1) := by decide +kernel
theorem d_M_within_10 : decode b_M_within 10 = .ok (.iconst 0, 1) := by decide +kernel
theorem d_M_within_11 : decode b_M_within 11 = .ok (.sipush 7000, 3) := by decide +kernel
theorem d_M_within_14 : decode b_M_within 14 = .ok (.invokestatic 83, 3) := by decide +kernel
theorem d_M_within_17 : decode b_M_within 17 = .ok (.ifCond .ne 6, 3) := by decide +kernel
theorem d_M_within_20 : decode b_M_within 20 = .ok (.bipush (-2), 2) := by decide +kernel
theorem d_M_within_22 : decode b_M_within 22 = .ok (.ireturn, 1) := by decide +kernel
theorem d_M_within_23 : decode b_M_within 23 = .ok (.aload_n 0, 1) := by decide +kernel
theorem d_M_within_24 : decode b_M_within 24 = .ok (.iload_n 1, 1) := by decide +kernel
theorem d_M_within_25 : decode b_M_within 25 = .ok (.iload_n 2, 1) := by decide +kernel
theorem d_M_within_26 : decode b_M_within 26 = .ok (.invokevirtual 122, 3) := by decide +kernel
theorem d_M_within_29 : decode b_M_within 29 = .ok (.iconst 0, 1) := by decide +kernel
theorem d_M_within_30 : decode b_M_within 30 = .ok (.istore 4, 2) := by decide +kernel
theorem d_M_within_32 : decode b_M_within 32 = .ok (.iload 4, 2) := by decide +kernel
theorem d_M_within_34 : decode b_M_within 34 = .ok (.aload_n 0, 1) := by decide +kernel
theorem d_M_within_35 : decode b_M_within 35 = .ok (.getfield 98, 3) := by decide +kernel
theorem d_M_within_38 : decode b_M_within 38 = .ok (.if_icmp .ge 27, 3) := by decide +kernel
theorem d_M_within_41 : decode b_M_within 41 = .ok (.aload_n 0, 1) := by decide +kernel
theorem d_M_within_42 : decode b_M_within 42 = .ok (.getfield 29, 3) := by decide +kernel
theorem d_M_within_45 : decode b_M_within 45 = .ok (.iload 4, 2) := by decide +kernel
theorem d_M_within_47 : decode b_M_within 47 = .ok (.iaload, 1) := by decide +kernel
theorem d_M_within_48 : decode b_M_within 48 = .ok (.iload_n 3, 1) := by decide +kernel
theorem d_M_within_49 : decode b_M_within 49 = .ok (.if_icmp .gt 10, 3) := by decide +kernel
theorem d_M_within_52 : decode b_M_within 52 = .ok (.aload_n 0, 1) := by decide +kernel
theorem d_M_within_53 : decode b_M_within 53 = .ok (.iload 4, 2) := by decide +kernel
theorem d_M_within_55 : decode b_M_within 55 = .ok (.invokevirtual 126, 3) := by decide +kernel
theorem d_M_within_58 : decode b_M_within 58 = .ok (.ireturn, 1) := by decide +kernel
theorem d_M_within_59 : decode b_M_within 59 = .ok (.iinc 4 1, 3) := by decide +kernel
theorem d_M_within_62 : decode b_M_within 62 = .ok (.goto (-30), 3) := by decide +kernel
theorem d_M_within_65 : decode b_M_within 65 = .ok (.iconst (-1), 1) := by decide +kernel
theorem d_M_within_66 : decode b_M_within 66 = .ok (.ireturn, 1) := by decide +kernel
theorem d_M_isBettered_0 : decode b_M_isBettered 0 = .ok (.iconst 0, 1) := by decide +kernel
theorem d_M_isBettered_1 : decode b_M_isBettered 1 = .ok (.istore_n 2, 1) := by decide +kernel
theorem d_M_isBettered_2 : decode b_M_isBettered 2 = .ok (.iconst 0, 1) := by decide +kernel
theorem d_M_isBettered_3 : decode b_M_isBettered 3 = .ok (.istore_n 3, 1) := by decide +kernel
theorem d_M_isBettered_4 : decode b_M_isBettered 4 = .ok (.iload_n 3, 1) := by decide +kernel
theorem d_M_isBettered_5 : decode b_M_isBettered 5 = .ok (.aload_n 0, 1) := by decide +kernel
theorem d_M_isBettered_6 : decode b_M_isBettered 6 = .ok (.getfield 98, 3) := by decide +kernel
theorem d_M_isBettered_9 : decode b_M_isBettered 9 = .ok (.if_icmp .ge 91, 3) := by decide +kernel
theorem d_M_isBettered_12 : decode b_M_isBettered 12 = .ok (.aload_n 0, 1) := by decide +kernel
theorem d_M_isBettered_13 : decode b_M_isBettered 13 = .ok (.getfield 26, 3) := by decide +kernel
theorem d_M_isBettered_16 : decode b_M_isBettered 16 = .ok (.iload_n 3, 1) := by decide +kernel
theorem d_M_isBettered_17 : decode b_M_isBettered 17 = .ok (.iaload, 1) := by decide +kernel
theorem d_M_isBettered_18 : decode b_M_isBettered 18 = .ok (.aload_n 0, 1) := by decide +kernel
theorem d_M_isBettered_19 : decode b_M_isBettered 19 = .ok (.getfield 26, 3) := by decide +kernel
theorem d_M_isBettered_22 : decode b_M_isBettered 22 = .ok (.iload_n 1, 1) := by decide +kernel
theorem d_M_isBettered_23 : decode b_M_isBettered 23 = .ok (.iaload, 1) := by decide +kernel
theorem d_M_isBettered_24 : decode b_M_isBettered 24 = .ok (.if_icmp .lt 18, 3) := by decide +kernel
theorem d_M_isBettered_27 : decode b_M_isBettered 27 = .ok (.aload_n 0, 1) := by decide +kernel
theorem d_M_isBettered_28 : decode b_M_isBettered 28 = .ok (.getfield 29, 3) := by decide +kernel
theorem d_M_isBettered_31 : decode b_M_isBettered 31 = .ok (.iload_n 3, 1) := by decide +kernel
theorem d_M_isBettered_32 : decode b_M_isBettered 32 = .ok (.iaload, 1) := by decide +kernel
theorem d_M_isBettered_33 : decode b_M_isBettered 33 = .ok (.aload_n 0, 1) := by decide +kernel
theorem d_M_isBettered_34 : decode b_M_isBettered 34 = .ok (.getfield 29, 3) := by decide +kernel
theorem d_M_isBettered_37 : decode b_M_isBettered 37 = .ok (.iload_n 1, 1) := by decide +kernel
theorem d_M_isBettered_38 : decode b_M_isBettered 38 = .ok (.iaload, 1) := by decide +kernel
theorem d_M_isBettered_39 : decode b_M_isBettered 39 = .ok (.if_icmp .ge 7, 3) := by decide +kernel
theorem d_M_isBettered_42 : decode b_M_isBettered 42 = .ok (.iconst 1, 1) := by decide +kernel
theorem d_M_isBettered_43 : decode b_M_isBettered 43 = .ok (.goto 4, 3) := by decide +kernel
theorem d_M_isBettered_46 : decode b_M_isBettered 46 = .ok (.iconst 0, 1) := by decide +kernel
theorem d_M_isBettered_47 : decode b_M_isBettered 47 = .ok (.istore 4, 2) := by decide +kernel
theorem d_M_isBettered_49 : decode b_M_isBettered 49 = .ok (.iload_n 2, 1) := by decide +kernel
theorem d_M_isBettered_50 : decode b_M_isBettered 50 = .ok (.ifCond .ne 38, 3) := by decide +kernel
theorem d_M_isBettered_53 : decode b_M_isBettered 53 = .ok (.iload 4, 2) := by decide +kernel
theorem d_M_isBettered_55 : decode b_M_isBettered 55 = .ok (.ifCond .eq 37, 3) := by decide +kernel
theorem d_M_isBettered_58 : decode b_M_isBettered 58 = .ok (.aload_n 0, 1) := by decide +kernel
theorem d_M_isBettered_59 : decode b_M_isBettered 59 = .ok (.getfield 26, 3) := by decide +kernel
theorem d_M_isBettered_62 : decode b_M_isBettered 62 = .ok (.iload_n 3, 1) := by decide +kernel
theorem d_M_isBettered_63 : decode b_M_isBettered 63 = .ok (.iaload, 1) := by decide +kernel
theorem d_M_isBettered_64 : decode b_M_isBettered 64 = .ok (.aload_n 0, 1) := by decide +kernel
theorem d_M_isBettered_65 : decode b_M_isBettered 65 = .ok (.getfield 26, 3) := by decide +kernel
theorem d_M_isBettered_68 : decode b_M_isBettered 68 = .ok (.iload_n 1, 1) := by decide +kernel
theorem d_M_isBettered_69 : decode b_M_isBettered 69 = .ok (.iaload, 1) := by decide +kernel
theorem d_M_isBettered_70 : decode b_M_isBettered 70 = .ok (.if_icmp .gt 22, 3) := by decide +kernel
theorem d_M_isBettered_73 : decode b_M_isBettered 73 = .ok (.aload_n 0, 1) := by decide +kernel
theorem d_M_isBettered_74 : decode b_M_isBettered 74 = .ok (.getfield 29, 3) := by decide +kernel
theorem d_M_isBettered_77 : decode b_M_isBettered 77 = .ok (.iload_n 3, 1) := by decide +kernel
theorem d_M_isBettered_78 : decode b_M_isBettered 78 = .ok (.iaload, 1) := by decide +kernel
theorem d_M_isBettered_79 : decode b_M_isBettered 79 = .ok (.aload_n 0, 1) := by decide +kernel
theorem d_M_isBettered_80 : decode b_M_isBettered 80 = .ok (.getfield 29, 3) := by decide +kernel
theorem d_M_isBettered_83 : decode b_M_isBettered 83 = .ok (.iload_n 1, 1) := by decide +kernel
theorem d_M_isBettered_84 : decode b_M_isBettered 84 = .ok (.iaload, 1) := by decide +kernel
theorem d_M_isBettered_85 : decode b_M_isBettered 85 = .ok (.if_icmp .gt 7, 3) := by decide +kernel
theorem d_M_isBettered_88 : decode b_M_isBettered 88 = .ok (.iconst 1, 1) := by decide +kernel
theorem d_M_isBettered_89 : decode b_M_isBettered 89 = .ok (.goto 4, 3) := by decide +kernel
theorem d_M_isBettered_92 : decode b_M_isBettered 92 = .ok (.iconst 0, 1) := by decide +kernel
theorem d_M_isBettered_93 : decode b_M_isBettered 93 = .ok (.istore_n 2, 1) := by decide +kernel
theorem d_M_isBettered_94 : decode b_M_isBettered 94 = .ok (.iinc 3 1, 3) := by decide +kernel
theorem d_M_isBettered_97 : decode b_M_isBettered 97 = .ok (.goto (-93), 3) := by decide +kernel
theorem d_M_isBettered_100 : decode b_M_isBettered 100 = .ok (.iload_n 2, 1) := by decide +kernel
theorem d_M_isBettered_101 : decode b_M_isBettered 101 = .ok (.ireturn, 1) := by decide +kernel
theorem d_M_pairs_0 : decode b_M_pairs 0 = .ok (.aload_n 0, 1) := by decide +kernel
theorem d_M_pairs_1 : decode b_M_pairs 1 = .ok (.iload_n 1, 1) := by decide +kernel
theorem d_M_pairs_2 : decode b_M_pairs 2 = .ok (.iload_n 2, 1) := by decide +kernel
theorem d_M_pairs_3 : decode b_M_pairs 3 = .ok (.invokevirtual 91, 3) := by decide +kernel
theorem d_M_pairs_6 : decode b_M_pairs 6 = .ok (.ifCond .ne 6, 3) := by decide +kernel
theorem d_M_pairs_9 : decode b_M_pairs 9 = .ok (.bipush (-2), 2) := by decide +kernel
theorem d_M_pairs_11 : decode b_M_pairs 11 = .ok (.ireturn, 1) := by decide +kernel
theorem d_M_pairs_12 : decode b_M_pairs 12 = .ok (.aload_n 0, 1) := by decide +kernel
theorem d_M_pairs_13 : decode b_M_pairs 13 = .ok (.iload_n 1, 1) := by decide +kernel
theorem d_M_pairs_14 : decode b_M_pairs 14 = .ok (.iload_n 2, 1) := by decide +kernel
theorem d_M_pairs_15 : decode b_M_pairs 15 = .ok (.invokevirtual 122, 3) := by decide +kernel
theorem d_M_pairs_18 : decode b_M_pairs 18 = .ok (.aload_n 0, 1) := by decide +kernel
theorem d_M_pairs_19 : decode b_M_pairs 19 = .ok (.iconst 0, 1) := by decide +kernel
theorem d_M_pairs_20 : decode b_M_pairs 20 = .ok (.putfield 80, 3) := by decide +kernel
theorem d_M_pairs_23 : decode b_M_pairs 23 = .ok (.iconst 0, 1) := by decide +kernel
theorem d_M_pairs_24 : decode b_M_pairs 24 = .ok (.istore_n 3, 1) := by decide +kernel
theorem d_M_pairs_25 : decode b_M_pairs 25 = .ok (.iload_n 3, 1) := by decide +kernel
theorem d_M_pairs_26 : decode b_M_pairs 26 = .ok (.aload_n 0, 1) := by decide +kernel
theorem d_M_pairs_27 : decode b_M_pairs 27 = .ok (.getfield 98, 3) := by decide +kernel
theorem d_M_pairs_30 : decode b_M_pairs 30 = .ok (.if_icmp .ge 129, 3) := by decide +kernel
theorem d_M_pairs_33 : decode b_M_pairs 33 = .ok (.aload_n 0, 1) := by decide +kernel
theorem d_M_pairs_34 : decode b_M_pairs 34 = .ok (.getfield 80, 3) := by decide +kernel
theorem d_M_pairs_37 : decode b_M_pairs 37 = .ok (.ifCond .eq 23, 3) := by decide +kernel
theorem d_M_pairs_40 : decode b_M_pairs 40 = .ok (.aload_n 0, 1) := by decide +kernel
theorem d_M_pairs_41 : decode b_M_pairs 41 = .ok (.getfield 45, 3) := by decide +kernel
theorem d_M_pairs_44 : decode b_M_pairs 44 = .ok (.aload_n 0, 1) := by decide +kernel
theorem d_M_pairs_45 : decode b_M_pairs 45 = .ok (.getfield 80, 3) := by decide +kernel
theorem d_M_pairs_48 : decode b_M_pairs 48 = .ok (.iconst 1, 1) := by decide +kernel
theorem d_M_pairs_49 : decode b_M_pairs 49 = .ok (.isub, 1) := by decide +kernel
theorem d_M_pairs_50 : decode b_M_pairs 50 = .ok (.iaload, 1) := by decide +kernel
theorem d_M_pairs_51 : decode b_M_pairs 51 = .ok (.aload_n 0, 1) := by decide +kernel
theorem d_M_pairs_52 : decode b_M_pairs 52 = .ok (.getfield 26, 3) := by decide +kernel
theorem d_M_pairs_55 : decode b_M_pairs 55 = .ok (.iload_n 3, 1) := by decide +kernel
theorem d_M_pairs_56 : decode b_M_pairs 56 = .ok (.iaload, 1) := by decide +kernel
theorem d_M_pairs_57 : decode b_M_pairs 57 = .ok (.if_icmp .eq 7, 3) := by decide +kernel
theorem d_M_pairs_60 : decode b_M_pairs 60 = .ok (.iconst 1, 1) := by decide +kernel
theorem d_M_pairs_61 : decode b_M_pairs 61 = .ok (.goto 4, 3) := by decide +kernel
theorem d_M_pairs_64 : decode b_M_pairs 64 = .ok (.iconst 0, 1) := by decide +kernel
theorem d_M_pairs_65 : decode b_M_pairs 65 = .ok (.istore 4, 2) := by decide +kernel
theorem d_M_pairs_67 : decode b_M_pairs 67 = .ok (.iload 4, 2) := by decide +kernel
theorem d_M_pairs_69 : decode b_M_pairs 69 = .ok (.ifCond .eq 11, 3) := by decide +kernel
theorem d_M_pairs_72 : decode b_M_pairs 72 = .ok (.aload_n 0, 1) := by decide +kernel
theorem d_M_pairs_73 : decode b_M_pairs 73 = .ok (.iload_n 3, 1) := by decide +kernel
theorem d_M_pairs_74 : decode b_M_pairs 74 = .ok (.invokevirtual 143, 3) := by decide +kernel
theorem d_M_pairs_77 : decode b_M_pairs 77 = .ok (.ifCond .eq 36, 3) := by decide +kernel
theorem d_M_pairs_80 : decode b_M_pairs 80 = .ok (.iload 4, 2) := by decide +kernel
theorem d_M_pairs_82 : decode b_M_pairs 82 = .ok (.ifCond .ne 71, 3) := by decide +kernel
theorem d_M_pairs_85 : decode b_M_pairs 85 = .ok (.aload_n 0, 1) := by decide +kernel
theorem d_M_pairs_86 : decode b_M_pairs 86 = .ok (.getfield 48, 3) := by decide +kernel
theorem d_M_pairs_89 : decode b_M_pairs 89 = .ok (.aload_n 0, 1) := by decide +kernel
theorem d_M_pairs_90 : decode b_M_pairs 90 = .ok (.getfield 80, 3) := by decide +kernel
theorem d_M_pairs_93 : decode b_M_pairs 93 = .ok (.iconst 1, 1) := by decide +kernel
theorem d_M_pairs_94 : decode b_M_pairs 94 = .ok (.isub, 1) := by decide +kernel
theorem d_M_pairs_95 : decode b_M_pairs 95 = .ok (.iaload, 1) := by decide +kernel
theorem d_M_pairs_96 : decode b_M_pairs 96 = .ok (.aload_n 0, 1) := by decide +kernel
theorem d_M_pairs_97 : decode b_M_pairs 97 = .ok (.getfield 29, 3) := by decide +kernel
theorem d_M_pairs_100 : decode b_M_pairs 100 = .ok (.iload_n 3, 1) := by decide +kernel
theorem d_M_pairs_101 : decode b_M_pairs 101 = .ok (.iaload, 1) := by decide +kernel
theorem d_M_pairs_102 : decode b_M_pairs 102 = .ok (.if_icmp .eq 51, 3) := by decide +kernel
theorem d_M_pairs_105 : decode b_M_pairs 105 = .ok (.aload_n 0, 1) := by decide +kernel
theorem d_M_pairs_106 : decode b_M_pairs 106 = .ok (.iload_n 3, 1) := by decide +kernel
theorem d_M_pairs_107 : decode b_M_pairs 107 = .ok (.invokevirtual 143, 3) := by decide +kernel
theorem d_M_pairs_110 : decode b_M_pairs 110 = .ok (.ifCond .ne 43, 3) := by decide +kernel
theorem d_M_pairs_113 : decode b_M_pairs 113 = .ok (.aload_n 0, 1) := by decide +kernel
theorem d_M_pairs_114 : decode b_M_pairs 114 = .ok (.getfield 45, 3) := by decide +kernel
theorem d_M_pairs_117 : decode b_M_pairs 117 = .ok (.aload_n 0, 1) := by decide +kernel
theorem d_M_pairs_118 : decode b_M_pairs 118 = .ok (.getfield 80, 3) := by decide +kernel
theorem d_M_pairs_121 : decode b_M_pairs 121 = .ok (.aload_n 0, 1) := by decide +kernel
theorem d_M_pairs_122 : decode b_M_pairs 122 = .ok (.getfield 26, 3) := by decide +kernel
theorem d_M_pairs_125 : decode b_M_pairs 125 = .ok (.iload_n 3, 1) := by decide +kernel
theorem d_M_pairs_126 : decode b_M_pairs 126 = .ok (.iaload, 1) := by decide +kernel
theorem d_M_pairs_127 : decode b_M_pairs 127 = .ok (.iastore, 1) := by decide +kernel
theorem d_M_pairs_128 : decode b_M_pairs 128 = .ok (.aload_n 0, 1) := by decide +kernel
theorem d_M_pairs_129 : decode b_M_pairs 129 = .ok (.getfield 48, 3) := by decide +kernel
theorem d_M_pairs_132 : decode b_M_pairs 132 = .ok (.aload_n 0, 1) := by decide +kernel
theorem d_M_pairs_133 : decode b_M_pairs 133 = .ok (.getfield 80, 3) := by decide +kernel
theorem d_M_pairs_136 : decode b_M_pairs 136 = .ok (.aload_n 0, 1) := by decide +kernel
theorem d_M_pairs_137 : decode b_M_pairs 137 = .ok (.getfield 29, 3) := by decide +kernel
theorem d_M_pairs_140 : decode b_M_pairs 140 = .ok (.iload_n 3, 1) := by decide +kernel
theorem d_M_pairs_141 : decode b_M_pairs 141 = .ok (.iaload, 1) := by decide +kernel
theorem d_M_pairs_142 : decode b_M_pairs 142 = .ok (.iastore, 1) := by decide +kernel
theorem d_M_pairs_143 : decode b_M_pairs 143 = .ok (.aload_n 0, 1) := by decide +kernel
theorem d_M_pairs_144 : decode b_M_pairs 144 = .ok (.dup, 1) := by decide +kernel
theorem d_M_pairs_145 : decode b_M_pairs 145 = .ok (.getfield 80, 3) := by decide +kernel
theorem d_M_pairs_148 : decode b_M_pairs 148 = .ok (.iconst 1, 1) := by decide +kernel
theorem d_M_pairs_149 : decode b_M_pairs 149 = .ok (.iadd, 1) := by decide +kernel
theorem d_M_pairs_150 : decode b_M_pairs 150 = .ok (.putfield 80, 3) := by decide +kernel
theorem d_M_pairs_153 : decode b_M_pairs 153 = .ok (.iinc 3 1, 3) := by decide +kernel
theorem d_M_pairs_156 : decode b_M_pairs 156 = .ok (.goto (-131), 3) := by decide +kernel
theorem d_M_pairs_159 : decode b_M_pairs 159 = .ok (.aload_n 0, 1) := by decide +kernel
theorem d_M_pairs_160 : decode b_M_pairs 160 = .ok (.getfield 80, 3) := by decide +kernel
theorem d_M_pairs_163 : decode b_M_pairs 163 = .ok (.ireturn, 1) := by decide +kernel
theorem d_M_pair_0 : decode b_M_pair 0 = .ok (.iload_n 1, 1) := by decide +kernel
theorem d_M_pair_1 : decode b_M_pair 1 = .ok (.iconst 0, 1) := by decide +kernel
theorem d_M_pair_2 : decode b_M_pair 2 = .ok (.aload_n 0, 1) := by decide +kernel
theorem d_M_pair_3 : decode b_M_pair 3 = .ok (.getfield 80, 3) := by decide +kernel
theorem d_M_pair_6 : decode b_M_pair 6 = .ok (.iconst 1, 1) := by decide +kernel
theorem d_M_pair_7 : decode b_M_pair 7 = .ok (.isub, 1) := by decide +kernel
theorem d_M_pair_8 : decode b_M_pair 8 = .ok (.invokestatic 83, 3) := by decide +kernel
theorem d_M_pair_11 : decode b_M_pair 11 = .ok (.ifCond .eq 12, 3) := by decide +kernel
theorem d_M_pair_14 : decode b_M_pair 14 = .ok (.iload_n 2, 1) := by decide +kernel
theorem d_M_pair_15 : decode b_M_pair 15 = .ok (.iconst 0, 1) := by decide +kernel
theorem d_M_pair_16 : decode b_M_pair 16 = .ok (.iconst 1, 1) := by decide +kernel
theorem d_M_pair_17 : decode b_M_pair 17 = .ok (.invokestatic 83, 3) := by decide +kernel
theorem d_M_pair_20 : decode b_M_pair 20 = .ok (.ifCond .ne 6, 3) := by decide +kernel
theorem d_M_pair_23 : decode b_M_pair 23 = .ok (.bipush (-2), 2) := by decide +kernel
theorem d_M_pair_25 : decode b_M_pair 25 = .ok (.ireturn, 1) := by decide +kernel
theorem d_M_pair_26 : decode b_M_pair 26 = .ok (.iload_n 2, 1) := by decide +kernel
theorem d_M_pair_27 : decode b_M_pair 27 = .ok (.ifCond .ne 12, 3) := by decide +kernel
theorem d_M_pair_30 : decode b_M_pair 30 = .ok (.aload_n 0, 1) := by decide +kernel
theorem d_M_pair_31 : decode b_M_pair 31 = .ok (.getfield 45, 3) := by decide +kernel
theorem d_M_pair_34 : decode b_M_pair 34 = .ok (.iload_n 1, 1) := by decide +kernel
theorem d_M_pair_35 : decode b_M_pair 35 = .ok (.iaload, 1) := by decide +kernel
theorem d_M_pair_36 : decode b_M_pair 36 = .ok (.goto 9, 3) := by decide +kernel
theorem d_M_pair_39 : decode b_M_pair 39 = .ok (.aload_n 0, 1) := by decide +kernel
theorem d_M_pair_40 : decode b_M_pair 40 = .ok (.getfield 48, 3) := by decide +kernel
theorem d_M_pair_43 : decode b_M_pair 43 = .ok (.iload_n 1, 1) := by decide +kernel
theorem d_M_pair_44 : decode b_M_pair 44 = .ok (.iaload, 1) := by decide +kernel
theorem d_M_pair_45 : decode b_M_pair 45 = .ok (.ireturn, 1) := by decide +kernel
theorem d_M_step_0 : decode b_M_step 0 = .ok (.aload_n 0, 1) := by decide +kernel
theorem d_M_step_1 : decode b_M_step 1 = .ok (.getfield 76, 3) := by decide +kernel
theorem d_M_step_4 : decode b_M_step 4 = .ok (.ifCond .eq 17, 3) := by decide +kernel
theorem d_M_step_7 : decode b_M_step 7 = .ok (.iload_n 1, 1) := by decide +kernel
theorem d_M_step_8 : decode b_M_step 8 = .ok (.iconst 0, 1) := by decide +kernel
theorem d_M_step_9 : decode b_M_step 9 = .ok (.aload_n 0, 1) := by decide +kernel
theorem d_M_step_10 : decode b_M_step 10 = .ok (.getfield 115, 3) := by decide +kernel
theorem d_M_step_13 : decode b_M_step 13 = .ok (.iconst 1, 1) := by decide +kernel
theorem d_M_step_14 : decode b_M_step 14 = .ok (.isub, 1) := by decide +kernel
theorem d_M_step_15 : decode b_M_step 15 = .ok (.invokestatic 83, 3) := by decide +kernel
theorem d_M_step_18 : decode b_M_step 18 = .ok (.ifCond .ne 6, 3) := by decide +kernel
theorem d_M_step_21 : decode b_M_step 21 = .ok (.bipush (-2), 2) := by decide +kernel
theorem d_M_step_23 : decode b_M_step 23 = .ok (.ireturn, 1) := by decide +kernel
theorem d_M_step_24 : decode b_M_step 24 = .ok (.aload_n 0, 1) := by decide +kernel
theorem d_M_step_25 : decode b_M_step 25 = .ok (.getfield 118, 3) := by decide +kernel
theorem d_M_step_28 : decode b_M_step 28 = .ok (.iconst 5, 1) := by decide +kernel
theorem d_M_step_29 : decode b_M_step 29 = .ok (.aload_n 0, 1) := by decide +kernel
theorem d_M_step_30 : decode b_M_step 30 = .ok (.getfield 115, 3) := by decide +kernel
theorem d_M_step_33 : decode b_M_step 33 = .ok (.iconst 1, 1) := by decide +kernel
theorem d_M_step_34 : decode b_M_step 34 = .ok (.isub, 1) := by decide +kernel
theorem d_M_step_35 : decode b_M_step 35 = .ok (.iload_n 1, 1) := by decide +kernel
theorem d_M_step_36 : decode b_M_step 36 = .ok (.isub, 1) := by decide +kernel
theorem d_M_step_37 : decode b_M_step 37 = .ok (.imul, 1) := by decide +kernel
theorem d_M_step_38 : decode b_M_step 38 = .ok (.lshr, 1) := by decide +kernel
theorem d_M_step_39 : decode b_M_step 39 = .ok (.ldc2_w 146, 3) := by decide +kernel
theorem d_M_step_42 : decode b_M_step 42 = .ok (.land, 1) := by decide +kernel
theorem d_M_step_43 : decode b_M_step 43 = .ok (.l2i, 1) := by decide +kernel
theorem d_M_step_44 : decode b_M_step 44 = .ok (.ireturn, 1) := by decide +kernel
theorem d_M_sum_0 : decode b_M_sum 0 = .ok (.iload_n 1, 1) := by decide +kernel
theorem d_M_sum_1 : decode b_M_sum 1 = .ok (.iconst 0, 1) := by decide +kernel
theorem d_M_sum_2 : decode b_M_sum 2 = .ok (.iconst 2, 1) := by decide +kernel
theorem d_M_sum_3 : decode b_M_sum 3 = .ok (.invokestatic 83, 3) := by decide +kernel
theorem d_M_sum_6 : decode b_M_sum 6 = .ok (.ifCond .ne 6, 3) := by decide +kernel
theorem d_M_sum_9 : decode b_M_sum 9 = .ok (.bipush (-2), 2) := by decide +kernel
theorem d_M_sum_11 : decode b_M_sum 11 = .ok (.ireturn, 1) := by decide +kernel
theorem d_M_sum_12 : decode b_M_sum 12 = .ok (.aload_n 0, 1) := by decide +kernel
theorem d_M_sum_13 : decode b_M_sum 13 = .ok (.getfield 76, 3) := by decide +kernel
theorem d_M_sum_16 : decode b_M_sum 16 = .ok (.ifCond .ne 7, 3) := by decide +kernel
theorem d_M_sum_19 : decode b_M_sum 19 = .ok (.iconst (-1), 1) := by decide +kernel
theorem d_M_sum_20 : decode b_M_sum 20 = .ok (.goto 30, 3) := by decide +kernel
theorem d_M_sum_23 : decode b_M_sum 23 = .ok (.iload_n 1, 1) := by decide +kernel
theorem d_M_sum_24 : decode b_M_sum 24 = .ok (.ifCond .ne 10, 3) := by decide +kernel
theorem d_M_sum_27 : decode b_M_sum 27 = .ok (.aload_n 0, 1) := by decide +kernel
theorem d_M_sum_28 : decode b_M_sum 28 = .ok (.getfield 109, 3) := by decide +kernel
theorem d_M_sum_31 : decode b_M_sum 31 = .ok (.goto 19, 3) := by decide +kernel
theorem d_M_sum_34 : decode b_M_sum 34 = .ok (.iload_n 1, 1) := by decide +kernel
theorem d_M_sum_35 : decode b_M_sum 35 = .ok (.iconst 1, 1) := by decide +kernel
theorem d_M_sum_36 : decode b_M_sum 36 = .ok (.if_icmp .ne 10, 3) := by decide +kernel
theorem d_M_sum_39 : decode b_M_sum 39 = .ok (.aload_n 0, 1) := by decide +kernel
theorem d_M_sum_40 : decode b_M_sum 40 = .ok (.getfield 112, 3) := by decide +kernel
theorem d_M_sum_43 : decode b_M_sum 43 = .ok (.goto 7, 3) := by decide +kernel
theorem d_M_sum_46 : decode b_M_sum 46 = .ok (.aload_n 0, 1) := by decide +kernel
theorem d_M_sum_47 : decode b_M_sum 47 = .ok (.getfield 115, 3) := by decide +kernel
theorem d_M_sum_50 : decode b_M_sum 50 = .ok (.ireturn, 1) := by decide +kernel
theorem d_M_told_0 : decode b_M_told 0 = .ok (.aload_n 0, 1) := by decide +kernel
theorem d_M_told_1 : decode b_M_told 1 = .ok (.iload_n 1, 1) := by decide +kernel
theorem d_M_told_2 : decode b_M_told 2 = .ok (.invokevirtual 95, 3) := by decide +kernel
theorem d_M_told_5 : decode b_M_told 5 = .ok (.ifCond .eq 12, 3) := by decide +kernel
theorem d_M_told_8 : decode b_M_told 8 = .ok (.iload_n 2, 1) := by decide +kernel
theorem d_M_told_9 : decode b_M_told 9 = .ok (.iconst 0, 1) := by decide +kernel
theorem d_M_told_10 : decode b_M_told 10 = .ok (.iconst 4, 1) := by decide +kernel
theorem d_M_told_11 : decode b_M_told 11 = .ok (.invokestatic 83, 3) := by decide +kernel
theorem d_M_told_14 : decode b_M_told 14 = .ok (.ifCond .ne 6, 3) := by decide +kernel
theorem d_M_told_17 : decode b_M_told 17 = .ok (.bipush (-2), 2) := by decide +kernel
theorem d_M_told_19 : decode b_M_told 19 = .ok (.ireturn, 1) := by decide +kernel
theorem d_M_told_20 : decode b_M_told 20 = .ok (.iload_n 2, 1) := by decide +kernel
theorem d_M_told_21 : decode b_M_told 21 = .ok (.tableswitch 59 0 3 #[31, 38, 45, 52], 31) := by decide +kernel
theorem d_M_told_52 : decode b_M_told 52 = .ok (.aload_n 0, 1) := by decide +kernel
theorem d_M_told_53 : decode b_M_told 53 = .ok (.getfield 7, 3) := by decide +kernel
theorem d_M_told_56 : decode b_M_told 56 = .ok (.iload_n 1, 1) := by decide +kernel
theorem d_M_told_57 : decode b_M_told 57 = .ok (.iaload, 1) := by decide +kernel
theorem d_M_told_58 : decode b_M_told 58 = .ok (.ireturn, 1) := by decide +kernel
theorem d_M_told_59 : decode b_M_told 59 = .ok (.aload_n 0, 1) := by decide +kernel
theorem d_M_told_60 : decode b_M_told 60 = .ok (.getfield 13, 3) := by decide +kernel
theorem d_M_told_63 : decode b_M_told 63 = .ok (.iload_n 1, 1) := by decide +kernel
theorem d_M_told_64 : decode b_M_told 64 = .ok (.iaload, 1) := by decide +kernel
theorem d_M_told_65 : decode b_M_told 65 = .ok (.ireturn, 1) := by decide +kernel
theorem d_M_told_66 : decode b_M_told 66 = .ok (.aload_n 0, 1) := by decide +kernel
theorem d_M_told_67 : decode b_M_told 67 = .ok (.getfield 16, 3) := by decide +kernel
theorem d_M_told_70 : decode b_M_told 70 = .ok (.iload_n 1, 1) := by decide +kernel
theorem d_M_told_71 : decode b_M_told 71 = .ok (.iaload, 1) := by decide +kernel
theorem d_M_told_72 : decode b_M_told 72 = .ok (.ireturn, 1) := by decide +kernel
theorem d_M_told_73 : decode b_M_told 73 = .ok (.aload_n 0, 1) := by decide +kernel
theorem d_M_told_74 : decode b_M_told 74 = .ok (.getfield 19, 3) := by decide +kernel
theorem d_M_told_77 : decode b_M_told 77 = .ok (.iload_n 1, 1) := by decide +kernel
theorem d_M_told_78 : decode b_M_told 78 = .ok (.iaload, 1) := by decide +kernel
theorem d_M_told_79 : decode b_M_told 79 = .ok (.ireturn, 1) := by decide +kernel
theorem d_M_told_80 : decode b_M_told 80 = .ok (.aload_n 0, 1) := by decide +kernel
theorem d_M_told_81 : decode b_M_told 81 = .ok (.getfield 22, 3) := by decide +kernel
theorem d_M_told_84 : decode b_M_told 84 = .ok (.iload_n 1, 1) := by decide +kernel
theorem d_M_told_85 : decode b_M_told 85 = .ok (.baload, 1) := by decide +kernel
theorem d_M_told_86 : decode b_M_told 86 = .ok (.ifCond .eq 7, 3) := by decide +kernel
theorem d_M_told_89 : decode b_M_told 89 = .ok (.iconst 1, 1) := by decide +kernel
theorem d_M_told_90 : decode b_M_told 90 = .ok (.goto 4, 3) := by decide +kernel
theorem d_M_told_93 : decode b_M_told 93 = .ok (.iconst 0, 1) := by decide +kernel
theorem d_M_told_94 : decode b_M_told 94 = .ok (.ireturn, 1) := by decide +kernel
theorem d_M_of_0 : decode b_M_of 0 = .ok (.iload_n 1, 1) := by decide +kernel
theorem d_M_of_1 : decode b_M_of 1 = .ok (.iconst 0, 1) := by decide +kernel
theorem d_M_of_2 : decode b_M_of 2 = .ok (.iconst 2, 1) := by decide +kernel
theorem d_M_of_3 : decode b_M_of 3 = .ok (.invokestatic 83, 3) := by decide +kernel
theorem d_M_of_6 : decode b_M_of 6 = .ok (.ifCond .ne 6, 3) := by decide +kernel
theorem d_M_of_9 : decode b_M_of 9 = .ok (.bipush (-2), 2) := by decide +kernel
theorem d_M_of_11 : decode b_M_of 11 = .ok (.ireturn, 1) := by decide +kernel
theorem d_M_of_12 : decode b_M_of 12 = .ok (.iload_n 1, 1) := by decide +kernel
theorem d_M_of_13 : decode b_M_of 13 = .ok (.iconst 2, 1) := by decide +kernel
theorem d_M_of_14 : decode b_M_of 14 = .ok (.if_icmp .ge 19, 3) := by decide +kernel
theorem d_M_of_17 : decode b_M_of 17 = .ok (.iload_n 1, 1) := by decide +kernel
theorem d_M_of_18 : decode b_M_of 18 = .ok (.ifCond .ne 10, 3) := by decide +kernel
theorem d_M_of_21 : decode b_M_of 21 = .ok (.aload_n 0, 1) := by decide +kernel
theorem d_M_of_22 : decode b_M_of 22 = .ok (.getfield 69, 3) := by decide +kernel
theorem d_M_of_25 : decode b_M_of 25 = .ok (.goto 7, 3) := by decide +kernel
theorem d_M_of_28 : decode b_M_of 28 = .ok (.aload_n 0, 1) := by decide +kernel
theorem d_M_of_29 : decode b_M_of 29 = .ok (.getfield 73, 3) := by decide +kernel
theorem d_M_of_32 : decode b_M_of 32 = .ok (.ireturn, 1) := by decide +kernel
theorem d_M_of_33 : decode b_M_of 33 = .ok (.iconst 0, 1) := by decide +kernel
theorem d_M_of_34 : decode b_M_of 34 = .ok (.istore_n 2, 1) := by decide +kernel
theorem d_M_of_35 : decode b_M_of 35 = .ok (.iconst 0, 1) := by decide +kernel
theorem d_M_of_36 : decode b_M_of 36 = .ok (.istore_n 3, 1) := by decide +kernel
theorem d_M_of_37 : decode b_M_of 37 = .ok (.iload_n 3, 1) := by decide +kernel
theorem d_M_of_38 : decode b_M_of 38 = .ok (.aload_n 0, 1) := by decide +kernel
theorem d_M_of_39 : decode b_M_of 39 = .ok (.getfield 73, 3) := by decide +kernel
theorem d_M_of_42 : decode b_M_of 42 = .ok (.if_icmp .ge 26, 3) := by decide +kernel
theorem d_M_of_45 : decode b_M_of 45 = .ok (.iload_n 2, 1) := by decide +kernel
theorem d_M_of_46 : decode b_M_of 46 = .ok (.aload_n 0, 1) := by decide +kernel
theorem d_M_of_47 : decode b_M_of 47 = .ok (.getfield 22, 3) := by decide +kernel
theorem d_M_of_50 : decode b_M_of 50 = .ok (.iload_n 3, 1) := by decide +kernel
theorem d_M_of_51 : decode b_M_of 51 = .ok (.baload, 1) := by decide +kernel
theorem d_M_of_52 : decode b_M_of 52 = .ok (.ifCond .eq 7, 3) := by decide +kernel
theorem d_M_of_55 : decode b_M_of 55 = .ok (.iconst 1, 1) := by decide +kernel
theorem d_M_of_56 : decode b_M_of 56 = .ok (.goto 4, 3) := by decide +kernel
theorem d_M_of_59 : decode b_M_of 59 = .ok (.iconst 0, 1) := by decide +kernel
theorem d_M_of_60 : decode b_M_of 60 = .ok (.iadd, 1) := by decide +kernel
theorem d_M_of_61 : decode b_M_of 61 = .ok (.istore_n 2, 1) := by decide +kernel
theorem d_M_of_62 : decode b_M_of 62 = .ok (.iinc 3 1, 3) := by decide +kernel
theorem d_M_of_65 : decode b_M_of 65 = .ok (.goto (-28), 3) := by decide +kernel
theorem d_M_of_68 : decode b_M_of 68 = .ok (.iload_n 2, 1) := by decide +kernel
theorem d_M_of_69 : decode b_M_of 69 = .ok (.ireturn, 1) := by decide +kernel
end
section
theorem d_L_law_0 : decode b_L_law 0 = .ok (.new 7, 3) := by decide +kernel
theorem d_L_law_3 : decode b_L_law 3 = .ok (.dup, 1) := by decide +kernel
theorem d_L_law_4 : decode b_L_law 4 = .ok (.invokespecial 9, 3) := by decide +kernel
theorem d_L_law_7 : decode b_L_law 7 = .ok (.astore_n 1, 1) := by decide +kernel
theorem d_L_law_8 : decode b_L_law 8 = .ok (.new 10, 3) := by decide +kernel
theorem d_L_law_11 : decode b_L_law 11 = .ok (.dup, 1) := by decide +kernel
theorem d_L_law_12 : decode b_L_law 12 = .ok (.invokespecial 12, 3) := by decide +kernel
theorem d_L_law_15 : decode b_L_law 15 = .ok (.astore_n 2, 1) := by decide +kernel
theorem d_L_law_16 : decode b_L_law 16 = .ok (.iconst 0, 1) := by decide +kernel
theorem d_L_law_17 : decode b_L_law 17 = .ok (.istore_n 3, 1) := by decide +kernel
theorem d_L_law_18 : decode b_L_law 18 = .ok (.iload_n 3, 1) := by decide +kernel
theorem d_L_law_19 : decode b_L_law 19 = .ok (.aload_n 0, 1) := by decide +kernel
theorem d_L_law_20 : decode b_L_law 20 = .ok (.arraylength, 1) := by decide +kernel
theorem d_L_law_21 : decode b_L_law 21 = .ok (.iconst 5, 1) := by decide +kernel
theorem d_L_law_22 : decode b_L_law 22 = .ok (.isub, 1) := by decide +kernel
theorem d_L_law_23 : decode b_L_law 23 = .ok (.if_icmp .gt 649, 3) := by decide +kernel
theorem d_L_law_26 : decode b_L_law 26 = .ok (.aload_n 0, 1) := by decide +kernel
theorem d_L_law_27 : decode b_L_law 27 = .ok (.iload_n 3, 1) := by decide +kernel
theorem d_L_law_28 : decode b_L_law 28 = .ok (.iaload, 1) := by decide +kernel
theorem d_L_law_29 : decode b_L_law 29 = .ok (.bipush 15, 2) := by decide +kernel
theorem d_L_law_31 : decode b_L_law 31 = .ok (.iand, 1) := by decide +kernel
theorem d_L_law_32 : decode b_L_law 32 = .ok (.tableswitch 634 0 15 #[80, 93, 106, 159, 202, 251, 294, 327, 380, 423, 466, 499, 532, 555, 578, 611], 80) := by decide +kernel
theorem d_L_law_112 : decode b_L_law 112 = .ok (.aload_n 1, 1) := by decide +kernel
theorem d_L_law_113 : decode b_L_law 113 = .ok (.invokevirtual 13, 3) := by decide +kernel
theorem d_L_law_116 : decode b_L_law 116 = .ok (.aload_n 2, 1) := by decide +kernel
theorem d_L_law_117 : decode b_L_law 117 = .ok (.invokevirtual 17, 3) := by decide +kernel
theorem d_L_law_120 : decode b_L_law 120 = .ok (.if_icmp .eq 546, 3) := by decide +kernel
theorem d_L_law_123 : decode b_L_law 123 = .ok (.iconst 0, 1) := by decide +kernel
theorem d_L_law_124 : decode b_L_law 124 = .ok (.ireturn, 1) := by decide +kernel
theorem d_L_law_125 : decode b_L_law 125 = .ok (.aload_n 1, 1) := by decide +kernel
theorem d_L_law_126 : decode b_L_law 126 = .ok (.invokevirtual 18, 3) := by decide +kernel
theorem d_L_law_129 : decode b_L_law 129 = .ok (.aload_n 2, 1) := by decide +kernel
theorem d_L_law_130 : decode b_L_law 130 = .ok (.invokevirtual 21, 3) := by decide +kernel
theorem d_L_law_133 : decode b_L_law 133 = .ok (.if_icmp .eq 533, 3) := by decide +kernel
theorem d_L_law_136 : decode b_L_law 136 = .ok (.iconst 0, 1) := by decide +kernel
theorem d_L_law_137 : decode b_L_law 137 = .ok (.ireturn, 1) := by decide +kernel
theorem d_L_law_138 : decode b_L_law 138 = .ok (.aload_n 1, 1) := by decide +kernel
theorem d_L_law_139 : decode b_L_law 139 = .ok (.aload_n 0, 1) := by decide +kernel
theorem d_L_law_140 : decode b_L_law 140 = .ok (.iload_n 3, 1) := by decide +kernel
theorem d_L_law_141 : decode b_L_law 141 = .ok (.iconst 1, 1) := by decide +kernel
theorem d_L_law_142 : decode b_L_law 142 = .ok (.iadd, 1) := by decide +kernel
theorem d_L_law_143 : decode b_L_law 143 = .ok (.iaload, 1) := by decide +kernel
theorem d_L_law_144 : decode b_L_law 144 = .ok (.aload_n 0, 1) := by decide +kernel
theorem d_L_law_145 : decode b_L_law 145 = .ok (.iload_n 3, 1) := by decide +kernel
theorem d_L_law_146 : decode b_L_law 146 = .ok (.iconst 2, 1) := by decide +kernel
theorem d_L_law_147 : decode b_L_law 147 = .ok (.iadd, 1) := by decide +kernel
theorem d_L_law_148 : decode b_L_law 148 = .ok (.iaload, 1) := by decide +kernel
theorem d_L_law_149 : decode b_L_law 149 = .ok (.aload_n 0, 1) := by decide +kernel
theorem d_L_law_150 : decode b_L_law 150 = .ok (.iload_n 3, 1) := by decide +kernel
theorem d_L_law_151 : decode b_L_law 151 = .ok (.iconst 3, 1) := by decide +kernel
theorem d_L_law_152 : decode b_L_law 152 = .ok (.iadd, 1) := by decide +kernel
theorem d_L_law_153 : decode b_L_law 153 = .ok (.iaload, 1) := by decide +kernel
theorem d_L_law_154 : decode b_L_law 154 = .ok (.aload_n 0, 1) := by decide +kernel
theorem d_L_law_155 : decode b_L_law 155 = .ok (.iload_n 3, 1) := by decide +kernel
theorem d_L_law_156 : decode b_L_law 156 = .ok (.iconst 4, 1) := by decide +kernel
theorem d_L_law_157 : decode b_L_law 157 = .ok (.iadd, 1) := by decide +kernel
theorem d_L_law_158 : decode b_L_law 158 = .ok (.iaload, 1) := by decide +kernel
theorem d_L_law_159 : decode b_L_law 159 = .ok (.invokevirtual 22, 3) := by decide +kernel
theorem d_L_law_162 : decode b_L_law 162 = .ok (.aload_n 2, 1) := by decide +kernel
theorem d_L_law_163 : decode b_L_law 163 = .ok (.aload_n 0, 1) := by decide +kernel
theorem d_L_law_164 : decode b_L_law 164 = .ok (.iload_n 3, 1) := by decide +kernel
theorem d_L_law_165 : decode b_L_law 165 = .ok (.iconst 1, 1) := by decide +kernel
theorem d_L_law_166 : decode b_L_law 166 = .ok (.iadd, 1) := by decide +kernel
theorem d_L_law_167 : decode b_L_law 167 = .ok (.iaload, 1) := by decide +kernel
theorem d_L_law_168 : decode b_L_law 168 = .ok (.aload_n 0, 1) := by decide +kernel
theorem d_L_law_169 : decode b_L_law 169 = .ok (.iload_n 3, 1) := by decide +kernel
theorem d_L_law_170 : decode b_L_law 170 = .ok (.iconst 2, 1) := by decide +kernel
theorem d_L_law_171 : decode b_L_law 171 = .ok (.iadd, 1) := by decide +kernel
theorem d_L_law_172 : decode b_L_law 172 = .ok (.iaload, 1) := by decide +kernel
theorem d_L_law_173 : decode b_L_law 173 = .ok (.aload_n 0, 1) := by decide +kernel
theorem d_L_law_174 : decode b_L_law 174 = .ok (.iload_n 3, 1) := by decide +kernel
theorem d_L_law_175 : decode b_L_law 175 = .ok (.iconst 3, 1) := by decide +kernel
theorem d_L_law_176 : decode b_L_law 176 = .ok (.iadd, 1) := by decide +kernel
theorem d_L_law_177 : decode b_L_law 177 = .ok (.iaload, 1) := by decide +kernel
theorem d_L_law_178 : decode b_L_law 178 = .ok (.aload_n 0, 1) := by decide +kernel
theorem d_L_law_179 : decode b_L_law 179 = .ok (.iload_n 3, 1) := by decide +kernel
theorem d_L_law_180 : decode b_L_law 180 = .ok (.iconst 4, 1) := by decide +kernel
theorem d_L_law_181 : decode b_L_law 181 = .ok (.iadd, 1) := by decide +kernel
theorem d_L_law_182 : decode b_L_law 182 = .ok (.iaload, 1) := by decide +kernel
theorem d_L_law_183 : decode b_L_law 183 = .ok (.invokevirtual 26, 3) := by decide +kernel
theorem d_L_law_186 : decode b_L_law 186 = .ok (.if_icmp .eq 480, 3) := by decide +kernel
theorem d_L_law_189 : decode b_L_law 189 = .ok (.iconst 0, 1) := by decide +kernel
theorem d_L_law_190 : decode b_L_law 190 = .ok (.ireturn, 1) := by decide +kernel
theorem d_L_law_191 : decode b_L_law 191 = .ok (.aload_n 1, 1) := by decide +kernel
theorem d_L_law_192 : decode b_L_law 192 = .ok (.aload_n 0, 1) := by decide +kernel
theorem d_L_law_193 : decode b_L_law 193 = .ok (.iload_n 3, 1) := by decide +kernel
theorem d_L_law_194 : decode b_L_law 194 = .ok (.iconst 1, 1) := by decide +kernel
theorem d_L_law_195 : decode b_L_law 195 = .ok (.iadd, 1) := by decide +kernel
theorem d_L_law_196 : decode b_L_law 196 = .ok (.iaload, 1) := by decide +kernel
theorem d_L_law_197 : decode b_L_law 197 = .ok (.aload_n 0, 1) := by decide +kernel
theorem d_L_law_198 : decode b_L_law 198 = .ok (.iload_n 3, 1) := by decide +kernel
theorem d_L_law_199 : decode b_L_law 199 = .ok (.iconst 2, 1) := by decide +kernel
theorem d_L_law_200 : decode b_L_law 200 = .ok (.iadd, 1) := by decide +kernel
theorem d_L_law_201 : decode b_L_law 201 = .ok (.iaload, 1) := by decide +kernel
theorem d_L_law_202 : decode b_L_law 202 = .ok (.aload_n 0, 1) := by decide +kernel
theorem d_L_law_203 : decode b_L_law 203 = .ok (.iload_n 3, 1) := by decide +kernel
theorem d_L_law_204 : decode b_L_law 204 = .ok (.iconst 3, 1) := by decide +kernel
theorem d_L_law_205 : decode b_L_law 205 = .ok (.iadd, 1) := by decide +kernel
theorem d_L_law_206 : decode b_L_law 206 = .ok (.iaload, 1) := by decide +kernel
theorem d_L_law_207 : decode b_L_law 207 = .ok (.invokevirtual 27, 3) := by decide +kernel
theorem d_L_law_210 : decode b_L_law 210 = .ok (.aload_n 2, 1) := by decide +kernel
theorem d_L_law_211 : decode b_L_law 211 = .ok (.aload_n 0, 1) := by decide +kernel
theorem d_L_law_212 : decode b_L_law 212 = .ok (.iload_n 3, 1) := by decide +kernel
theorem d_L_law_213 : decode b_L_law 213 = .ok (.iconst 1, 1) := by decide +kernel
theorem d_L_law_214 : decode b_L_law 214 = .ok (.iadd, 1) := by decide +kernel
theorem d_L_law_215 : decode b_L_law 215 = .ok (.iaload, 1) := by decide +kernel
theorem d_L_law_216 : decode b_L_law 216 = .ok (.aload_n 0, 1) := by decide +kernel
theorem d_L_law_217 : decode b_L_law 217 = .ok (.iload_n 3, 1) := by decide +kernel
theorem d_L_law_218 : decode b_L_law 218 = .ok (.iconst 2, 1) := by decide +kernel
theorem d_L_law_219 : decode b_L_law 219 = .ok (.iadd, 1) := by decide +kernel
theorem d_L_law_220 : decode b_L_law 220 = .ok (.iaload, 1) := by decide +kernel
theorem d_L_law_221 : decode b_L_law 221 = .ok (.aload_n 0, 1) := by decide +kernel
theorem d_L_law_222 : decode b_L_law 222 = .ok (.iload_n 3, 1) := by decide +kernel
theorem d_L_law_223 : decode b_L_law 223 = .ok (.iconst 3, 1) := by decide +kernel
theorem d_L_law_224 : decode b_L_law 224 = .ok (.iadd, 1) := by decide +kernel
theorem d_L_law_225 : decode b_L_law 225 = .ok (.iaload, 1) := by decide +kernel
theorem d_L_law_226 : decode b_L_law 226 = .ok (.invokevirtual 31, 3) := by decide +kernel
theorem d_L_law_229 : decode b_L_law 229 = .ok (.if_icmp .eq 437, 3) := by decide +kernel
theorem d_L_law_232 : decode b_L_law 232 = .ok (.iconst 0, 1) := by decide +kernel
theorem d_L_law_233 : decode b_L_law 233 = .ok (.ireturn, 1) := by decide +kernel
theorem d_L_law_234 : decode b_L_law 234 = .ok (.aload_n 1, 1) := by decide +kernel
theorem d_L_law_235 : decode b_L_law 235 = .ok (.aload_n 0, 1) := by decide +kernel
theorem d_L_law_236 : decode b_L_law 236 = .ok (.iload_n 3, 1) := by decide +kernel
theorem d_L_law_237 : decode b_L_law 237 = .ok (.iconst 1, 1) := by decide +kernel
theorem d_L_law_238 : decode b_L_law 238 = .ok (.iadd, 1) := by decide +kernel
theorem d_L_law_239 : decode b_L_law 239 = .ok (.iaload, 1) := by decide +kernel
theorem d_L_law_240 : decode b_L_law 240 = .ok (.aload_n 0, 1) := by decide +kernel
theorem d_L_law_241 : decode b_L_law 241 = .ok (.iload_n 3, 1) := by decide +kernel
theorem d_L_law_242 : decode b_L_law 242 = .ok (.iconst 2, 1) := by decide +kernel
theorem d_L_law_243 : decode b_L_law 243 = .ok (.iadd, 1) := by decide +kernel
theorem d_L_law_244 : decode b_L_law 244 = .ok (.iaload, 1) := by decide +kernel
theorem d_L_law_245 : decode b_L_law 245 = .ok (.ifCond .eq 7, 3) := by decide +kernel
theorem d_L_law_248 : decode b_L_law 248 = .ok (.iconst 1, 1) := by decide +kernel
theorem d_L_law_249 : decode b_L_law 249 = .ok (.goto 4, 3) := by decide +kernel
theorem d_L_law_252 : decode b_L_law 252 = .ok (.iconst 0, 1) := by decide +kernel
theorem d_L_law_253 : decode b_L_law 253 = .ok (.invokevirtual 32, 3) := by decide +kernel
theorem d_L_law_256 : decode b_L_law 256 = .ok (.aload_n 2, 1) := by decide +kernel
theorem d_L_law_257 : decode b_L_law 257 = .ok (.aload_n 0, 1) := by decide +kernel
theorem d_L_law_258 : decode b_L_law 258 = .ok (.iload_n 3, 1) := by decide +kernel
theorem d_L_law_259 : decode b_L_law 259 = .ok (.iconst 1, 1) := by decide +kernel
theorem d_L_law_260 : decode b_L_law 260 = .ok (.iadd, 1) := by decide +kernel
theorem d_L_law_261 : decode b_L_law 261 = .ok (.iaload, 1) := by decide +kernel
theorem d_L_law_262 : decode b_L_law 262 = .ok (.aload_n 0, 1) := by decide +kernel
theorem d_L_law_263 : decode b_L_law 263 = .ok (.iload_n 3, 1) := by decide +kernel
theorem d_L_law_264 : decode b_L_law 264 = .ok (.iconst 2, 1) := by decide +kernel
theorem d_L_law_265 : decode b_L_law 265 = .ok (.iadd, 1) := by decide +kernel
theorem d_L_law_266 : decode b_L_law 266 = .ok (.iaload, 1) := by decide +kernel
theorem d_L_law_267 : decode b_L_law 267 = .ok (.ifCond .eq 7, 3) := by decide +kernel
theorem d_L_law_270 : decode b_L_law 270 = .ok (.iconst 1, 1) := by decide +kernel
theorem d_L_law_271 : decode b_L_law 271 = .ok (.goto 4, 3) := by decide +kernel
theorem d_L_law_274 : decode b_L_law 274 = .ok (.iconst 0, 1) := by decide +kernel
theorem d_L_law_275 : decode b_L_law 275 = .ok (.invokevirtual 36, 3) := by decide +kernel
theorem d_L_law_278 : decode b_L_law 278 = .ok (.if_icmp .eq 388, 3) := by decide +kernel
theorem d_L_law_281 : decode b_L_law 281 = .ok (.iconst 0, 1) := by decide +kernel
theorem d_L_law_282 : decode b_L_law 282 = .ok (.ireturn, 1) := by decide +kernel
theorem d_L_law_283 : decode b_L_law 283 = .ok (.aload_n 1, 1) := by decide +kernel
theorem d_L_law_284 : decode b_L_law 284 = .ok (.aload_n 0, 1) := by decide +kernel
theorem d_L_law_285 : decode b_L_law 285 = .ok (.iload_n 3, 1) := by decide +kernel
theorem d_L_law_286 : decode b_L_law 286 = .ok (.iconst 1, 1) := by decide +kernel
theorem d_L_law_287 : decode b_L_law 287 = .ok (.iadd, 1) := by decide +kernel
theorem d_L_law_288 : decode b_L_law 288 = .ok (.iaload, 1) := by decide +kernel
theorem d_L_law_289 : decode b_L_law 289 = .ok (.aload_n 0, 1) := by decide +kernel
theorem d_L_law_290 : decode b_L_law 290 = .ok (.iload_n 3, 1) := by decide +kernel
theorem d_L_law_291 : decode b_L_law 291 = .ok (.iconst 2, 1) := by decide +kernel
theorem d_L_law_292 : decode b_L_law 292 = .ok (.iadd, 1) := by decide +kernel
theorem d_L_law_293 : decode b_L_law 293 = .ok (.iaload, 1) := by decide +kernel
theorem d_L_law_294 : decode b_L_law 294 = .ok (.aload_n 0, 1) := by decide +kernel
theorem d_L_law_295 : decode b_L_law 295 = .ok (.iload_n 3, 1) := by decide +kernel
theorem d_L_law_296 : decode b_L_law 296 = .ok (.iconst 3, 1) := by decide +kernel
theorem d_L_law_297 : decode b_L_law 297 = .ok (.iadd, 1) := by decide +kernel
theorem d_L_law_298 : decode b_L_law 298 = .ok (.iaload, 1) := by decide +kernel
theorem d_L_law_299 : decode b_L_law 299 = .ok (.invokevirtual 37, 3) := by decide +kernel
theorem d_L_law_302 : decode b_L_law 302 = .ok (.aload_n 2, 1) := by decide +kernel
theorem d_L_law_303 : decode b_L_law 303 = .ok (.aload_n 0, 1) := by decide +kernel
theorem d_L_law_304 : decode b_L_law 304 = .ok (.iload_n 3, 1) := by decide +kernel
theorem d_L_law_305 : decode b_L_law 305 = .ok (.iconst 1, 1) := by decide +kernel
theorem d_L_law_306 : decode b_L_law 306 = .ok (.iadd, 1) := by decide +kernel
theorem d_L_law_307 : decode b_L_law 307 = .ok (.iaload, 1) := by decide +kernel
theorem d_L_law_308 : decode b_L_law 308 = .ok (.aload_n 0, 1) := by decide +kernel
theorem d_L_law_309 : decode b_L_law 309 = .ok (.iload_n 3, 1) := by decide +kernel
theorem d_L_law_310 : decode b_L_law 310 = .ok (.iconst 2, 1) := by decide +kernel
theorem d_L_law_311 : decode b_L_law 311 = .ok (.iadd, 1) := by decide +kernel
theorem d_L_law_312 : decode b_L_law 312 = .ok (.iaload, 1) := by decide +kernel
theorem d_L_law_313 : decode b_L_law 313 = .ok (.aload_n 0, 1) := by decide +kernel
theorem d_L_law_314 : decode b_L_law 314 = .ok (.iload_n 3, 1) := by decide +kernel
theorem d_L_law_315 : decode b_L_law 315 = .ok (.iconst 3, 1) := by decide +kernel
theorem d_L_law_316 : decode b_L_law 316 = .ok (.iadd, 1) := by decide +kernel
theorem d_L_law_317 : decode b_L_law 317 = .ok (.iaload, 1) := by decide +kernel
theorem d_L_law_318 : decode b_L_law 318 = .ok (.invokevirtual 40, 3) := by decide +kernel
theorem d_L_law_321 : decode b_L_law 321 = .ok (.if_icmp .eq 345, 3) := by decide +kernel
theorem d_L_law_324 : decode b_L_law 324 = .ok (.iconst 0, 1) := by decide +kernel
theorem d_L_law_325 : decode b_L_law 325 = .ok (.ireturn, 1) := by decide +kernel
theorem d_L_law_326 : decode b_L_law 326 = .ok (.aload_n 1, 1) := by decide +kernel
theorem d_L_law_327 : decode b_L_law 327 = .ok (.aload_n 0, 1) := by decide +kernel
theorem d_L_law_328 : decode b_L_law 328 = .ok (.iload_n 3, 1) := by decide +kernel
theorem d_L_law_329 : decode b_L_law 329 = .ok (.iconst 1, 1) := by decide +kernel
theorem d_L_law_330 : decode b_L_law 330 = .ok (.iadd, 1) := by decide +kernel
theorem d_L_law_331 : decode b_L_law 331 = .ok (.iaload, 1) := by decide +kernel
theorem d_L_law_332 : decode b_L_law 332 = .ok (.aload_n 0, 1) := by decide +kernel
theorem d_L_law_333 : decode b_L_law 333 = .ok (.iload_n 3, 1) := by decide +kernel
theorem d_L_law_334 : decode b_L_law 334 = .ok (.iconst 2, 1) := by decide +kernel
theorem d_L_law_335 : decode b_L_law 335 = .ok (.iadd, 1) := by decide +kernel
theorem d_L_law_336 : decode b_L_law 336 = .ok (.iaload, 1) := by decide +kernel
theorem d_L_law_337 : decode b_L_law 337 = .ok (.invokevirtual 41, 3) := by decide +kernel
theorem d_L_law_340 : decode b_L_law 340 = .ok (.aload_n 2, 1) := by decide +kernel
theorem d_L_law_341 : decode b_L_law 341 = .ok (.aload_n 0, 1) := by decide +kernel
theorem d_L_law_342 : decode b_L_law 342 = .ok (.iload_n 3, 1) := by decide +kernel
theorem d_L_law_343 : decode b_L_law 343 = .ok (.iconst 1, 1) := by decide +kernel
theorem d_L_law_344 : decode b_L_law 344 = .ok (.iadd, 1) := by decide +kernel
theorem d_L_law_345 : decode b_L_law 345 = .ok (.iaload, 1) := by decide +kernel
theorem d_L_law_346 : decode b_L_law 346 = .ok (.aload_n 0, 1) := by decide +kernel
theorem d_L_law_347 : decode b_L_law 347 = .ok (.iload_n 3, 1) := by decide +kernel
theorem d_L_law_348 : decode b_L_law 348 = .ok (.iconst 2, 1) := by decide +kernel
theorem d_L_law_349 : decode b_L_law 349 = .ok (.iadd, 1) := by decide +kernel
theorem d_L_law_350 : decode b_L_law 350 = .ok (.iaload, 1) := by decide +kernel
theorem d_L_law_351 : decode b_L_law 351 = .ok (.invokevirtual 45, 3) := by decide +kernel
theorem d_L_law_354 : decode b_L_law 354 = .ok (.if_icmp .eq 312, 3) := by decide +kernel
theorem d_L_law_357 : decode b_L_law 357 = .ok (.iconst 0, 1) := by decide +kernel
theorem d_L_law_358 : decode b_L_law 358 = .ok (.ireturn, 1) := by decide +kernel
theorem d_L_law_359 : decode b_L_law 359 = .ok (.aload_n 1, 1) := by decide +kernel
theorem d_L_law_360 : decode b_L_law 360 = .ok (.aload_n 0, 1) := by decide +kernel
theorem d_L_law_361 : decode b_L_law 361 = .ok (.iload_n 3, 1) := by decide +kernel
theorem d_L_law_362 : decode b_L_law 362 = .ok (.iconst 1, 1) := by decide +kernel
theorem d_L_law_363 : decode b_L_law 363 = .ok (.iadd, 1) := by decide +kernel
theorem d_L_law_364 : decode b_L_law 364 = .ok (.iaload, 1) := by decide +kernel
theorem d_L_law_365 : decode b_L_law 365 = .ok (.aload_n 0, 1) := by decide +kernel
theorem d_L_law_366 : decode b_L_law 366 = .ok (.iload_n 3, 1) := by decide +kernel
theorem d_L_law_367 : decode b_L_law 367 = .ok (.iconst 2, 1) := by decide +kernel
theorem d_L_law_368 : decode b_L_law 368 = .ok (.iadd, 1) := by decide +kernel
theorem d_L_law_369 : decode b_L_law 369 = .ok (.iaload, 1) := by decide +kernel
theorem d_L_law_370 : decode b_L_law 370 = .ok (.aload_n 0, 1) := by decide +kernel
theorem d_L_law_371 : decode b_L_law 371 = .ok (.iload_n 3, 1) := by decide +kernel
theorem d_L_law_372 : decode b_L_law 372 = .ok (.iconst 3, 1) := by decide +kernel
theorem d_L_law_373 : decode b_L_law 373 = .ok (.iadd, 1) := by decide +kernel
theorem d_L_law_374 : decode b_L_law 374 = .ok (.iaload, 1) := by decide +kernel
theorem d_L_law_375 : decode b_L_law 375 = .ok (.aload_n 0, 1) := by decide +kernel
theorem d_L_law_376 : decode b_L_law 376 = .ok (.iload_n 3, 1) := by decide +kernel
theorem d_L_law_377 : decode b_L_law 377 = .ok (.iconst 4, 1) := by decide +kernel
theorem d_L_law_378 : decode b_L_law 378 = .ok (.iadd, 1) := by decide +kernel
theorem d_L_law_379 : decode b_L_law 379 = .ok (.iaload, 1) := by decide +kernel
theorem d_L_law_380 : decode b_L_law 380 = .ok (.invokevirtual 46, 3) := by decide +kernel
theorem d_L_law_383 : decode b_L_law 383 = .ok (.aload_n 2, 1) := by decide +kernel
theorem d_L_law_384 : decode b_L_law 384 = .ok (.aload_n 0, 1) := by decide +kernel
theorem d_L_law_385 : decode b_L_law 385 = .ok (.iload_n 3, 1) := by decide +kernel
theorem d_L_law_386 : decode b_L_law 386 = .ok (.iconst 1, 1) := by decide +kernel
theorem d_L_law_387 : decode b_L_law 387 = .ok (.iadd, 1) := by decide +kernel
theorem d_L_law_388 : decode b_L_law 388 = .ok (.iaload, 1) := by decide +kernel
theorem d_L_law_389 : decode b_L_law 389 = .ok (.aload_n 0, 1) := by decide +kernel
theorem d_L_law_390 : decode b_L_law 390 = .ok (.iload_n 3, 1) := by decide +kernel
theorem d_L_law_391 : decode b_L_law 391 = .ok (.iconst 2, 1) := by decide +kernel
theorem d_L_law_392 : decode b_L_law 392 = .ok (.iadd, 1) := by decide +kernel
theorem d_L_law_393 : decode b_L_law 393 = .ok (.iaload, 1) := by decide +kernel
theorem d_L_law_394 : decode b_L_law 394 = .ok (.aload_n 0, 1) := by decide +kernel
theorem d_L_law_395 : decode b_L_law 395 = .ok (.iload_n 3, 1) := by decide +kernel
theorem d_L_law_396 : decode b_L_law 396 = .ok (.iconst 3, 1) := by decide +kernel
theorem d_L_law_397 : decode b_L_law 397 = .ok (.iadd, 1) := by decide +kernel
theorem d_L_law_398 : decode b_L_law 398 = .ok (.iaload, 1) := by decide +kernel
theorem d_L_law_399 : decode b_L_law 399 = .ok (.aload_n 0, 1) := by decide +kernel
theorem d_L_law_400 : decode b_L_law 400 = .ok (.iload_n 3, 1) := by decide +kernel
theorem d_L_law_401 : decode b_L_law 401 = .ok (.iconst 4, 1) := by decide +kernel
theorem d_L_law_402 : decode b_L_law 402 = .ok (.iadd, 1) := by decide +kernel
theorem d_L_law_403 : decode b_L_law 403 = .ok (.iaload, 1) := by decide +kernel
theorem d_L_law_404 : decode b_L_law 404 = .ok (.invokevirtual 49, 3) := by decide +kernel
theorem d_L_law_407 : decode b_L_law 407 = .ok (.if_icmp .eq 259, 3) := by decide +kernel
theorem d_L_law_410 : decode b_L_law 410 = .ok (.iconst 0, 1) := by decide +kernel
theorem d_L_law_411 : decode b_L_law 411 = .ok (.ireturn, 1) := by decide +kernel
theorem d_L_law_412 : decode b_L_law 412 = .ok (.aload_n 1, 1) := by decide +kernel
theorem d_L_law_413 : decode b_L_law 413 = .ok (.aload_n 0, 1) := by decide +kernel
theorem d_L_law_414 : decode b_L_law 414 = .ok (.iload_n 3, 1) := by decide +kernel
theorem d_L_law_415 : decode b_L_law 415 = .ok (.iconst 1, 1) := by decide +kernel
theorem d_L_law_416 : decode b_L_law 416 = .ok (.iadd, 1) := by decide +kernel
theorem d_L_law_417 : decode b_L_law 417 = .ok (.iaload, 1) := by decide +kernel
theorem d_L_law_418 : decode b_L_law 418 = .ok (.aload_n 0, 1) := by decide +kernel
theorem d_L_law_419 : decode b_L_law 419 = .ok (.iload_n 3, 1) := by decide +kernel
theorem d_L_law_420 : decode b_L_law 420 = .ok (.iconst 2, 1) := by decide +kernel
theorem d_L_law_421 : decode b_L_law 421 = .ok (.iadd, 1) := by decide +kernel
theorem d_L_law_422 : decode b_L_law 422 = .ok (.iaload, 1) := by decide +kernel
theorem d_L_law_423 : decode b_L_law 423 = .ok (.aload_n 0, 1) := by decide +kernel
theorem d_L_law_424 : decode b_L_law 424 = .ok (.iload_n 3, 1) := by decide +kernel
theorem d_L_law_425 : decode b_L_law 425 = .ok (.iconst 3, 1) := by decide +kernel
theorem d_L_law_426 : decode b_L_law 426 = .ok (.iadd, 1) := by decide +kernel
theorem d_L_law_427 : decode b_L_law 427 = .ok (.iaload, 1) := by decide +kernel
theorem d_L_law_428 : decode b_L_law 428 = .ok (.invokevirtual 50, 3) := by decide +kernel
theorem d_L_law_431 : decode b_L_law 431 = .ok (.aload_n 2, 1) := by decide +kernel
theorem d_L_law_432 : decode b_L_law 432 = .ok (.aload_n 0, 1) := by decide +kernel
theorem d_L_law_433 : decode b_L_law 433 = .ok (.iload_n 3, 1) := by decide +kernel
theorem d_L_law_434 : decode b_L_law 434 = .ok (.iconst 1, 1) := by decide +kernel
theorem d_L_law_435 : decode b_L_law 435 = .ok (.iadd, 1) := by decide +kernel
theorem d_L_law_436 : decode b_L_law 436 = .ok (.iaload, 1) := by decide +kernel
theorem d_L_law_437 : decode b_L_law 437 = .ok (.aload_n 0, 1) := by decide +kernel
theorem d_L_law_438 : decode b_L_law 438 = .ok (.iload_n 3, 1) := by decide +kernel
theorem d_L_law_439 : decode b_L_law 439 = .ok (.iconst 2, 1) := by decide +kernel
theorem d_L_law_440 : decode b_L_law 440 = .ok (.iadd, 1) := by decide +kernel
theorem d_L_law_441 : decode b_L_law 441 = .ok (.iaload, 1) := by decide +kernel
theorem d_L_law_442 : decode b_L_law 442 = .ok (.aload_n 0, 1) := by decide +kernel
theorem d_L_law_443 : decode b_L_law 443 = .ok (.iload_n 3, 1) := by decide +kernel
theorem d_L_law_444 : decode b_L_law 444 = .ok (.iconst 3, 1) := by decide +kernel
theorem d_L_law_445 : decode b_L_law 445 = .ok (.iadd, 1) := by decide +kernel
theorem d_L_law_446 : decode b_L_law 446 = .ok (.iaload, 1) := by decide +kernel
theorem d_L_law_447 : decode b_L_law 447 = .ok (.invokevirtual 53, 3) := by decide +kernel
theorem d_L_law_450 : decode b_L_law 450 = .ok (.if_icmp .eq 216, 3) := by decide +kernel
theorem d_L_law_453 : decode b_L_law 453 = .ok (.iconst 0, 1) := by decide +kernel
theorem d_L_law_454 : decode b_L_law 454 = .ok (.ireturn, 1) := by decide +kernel
theorem d_L_law_455 : decode b_L_law 455 = .ok (.aload_n 1, 1) := by decide +kernel
theorem d_L_law_456 : decode b_L_law 456 = .ok (.aload_n 0, 1) := by decide +kernel
theorem d_L_law_457 : decode b_L_law 457 = .ok (.iload_n 3, 1) := by decide +kernel
theorem d_L_law_458 : decode b_L_law 458 = .ok (.iconst 1, 1) := by decide +kernel
theorem d_L_law_459 : decode b_L_law 459 = .ok (.iadd, 1) := by decide +kernel
theorem d_L_law_460 : decode b_L_law 460 = .ok (.iaload, 1) := by decide +kernel
theorem d_L_law_461 : decode b_L_law 461 = .ok (.aload_n 0, 1) := by decide +kernel
theorem d_L_law_462 : decode b_L_law 462 = .ok (.iload_n 3, 1) := by decide +kernel
theorem d_L_law_463 : decode b_L_law 463 = .ok (.iconst 2, 1) := by decide +kernel
theorem d_L_law_464 : decode b_L_law 464 = .ok (.iadd, 1) := by decide +kernel
theorem d_L_law_465 : decode b_L_law 465 = .ok (.iaload, 1) := by decide +kernel
theorem d_L_law_466 : decode b_L_law 466 = .ok (.aload_n 0, 1) := by decide +kernel
theorem d_L_law_467 : decode b_L_law 467 = .ok (.iload_n 3, 1) := by decide +kernel
theorem d_L_law_468 : decode b_L_law 468 = .ok (.iconst 3, 1) := by decide +kernel
theorem d_L_law_469 : decode b_L_law 469 = .ok (.iadd, 1) := by decide +kernel
theorem d_L_law_470 : decode b_L_law 470 = .ok (.iaload, 1) := by decide +kernel
theorem d_L_law_471 : decode b_L_law 471 = .ok (.invokevirtual 54, 3) := by decide +kernel
theorem d_L_law_474 : decode b_L_law 474 = .ok (.aload_n 2, 1) := by decide +kernel
theorem d_L_law_475 : decode b_L_law 475 = .ok (.aload_n 0, 1) := by decide +kernel
theorem d_L_law_476 : decode b_L_law 476 = .ok (.iload_n 3, 1) := by decide +kernel
theorem d_L_law_477 : decode b_L_law 477 = .ok (.iconst 1, 1) := by decide +kernel
theorem d_L_law_478 : decode b_L_law 478 = .ok (.iadd, 1) := by decide +kernel
theorem d_L_law_479 : decode b_L_law 479 = .ok (.iaload, 1) := by decide +kernel
theorem d_L_law_480 : decode b_L_law 480 = .ok (.aload_n 0, 1) := by decide +kernel
theorem d_L_law_481 : decode b_L_law 481 = .ok (.iload_n 3, 1) := by decide +kernel
theorem d_L_law_482 : decode b_L_law 482 = .ok (.iconst 2, 1) := by decide +kernel
theorem d_L_law_483 : decode b_L_law 483 = .ok (.iadd, 1) := by decide +kernel
theorem d_L_law_484 : decode b_L_law 484 = .ok (.iaload, 1) := by decide +kernel
theorem d_L_law_485 : decode b_L_law 485 = .ok (.aload_n 0, 1) := by decide +kernel
theorem d_L_law_486 : decode b_L_law 486 = .ok (.iload_n 3, 1) := by decide +kernel
theorem d_L_law_487 : decode b_L_law 487 = .ok (.iconst 3, 1) := by decide +kernel
theorem d_L_law_488 : decode b_L_law 488 = .ok (.iadd, 1) := by decide +kernel
theorem d_L_law_489 : decode b_L_law 489 = .ok (.iaload, 1) := by decide +kernel
theorem d_L_law_490 : decode b_L_law 490 = .ok (.invokevirtual 57, 3) := by decide +kernel
theorem d_L_law_493 : decode b_L_law 493 = .ok (.if_icmp .eq 173, 3) := by decide +kernel
theorem d_L_law_496 : decode b_L_law 496 = .ok (.iconst 0, 1) := by decide +kernel
theorem d_L_law_497 : decode b_L_law 497 = .ok (.ireturn, 1) := by decide +kernel
theorem d_L_law_498 : decode b_L_law 498 = .ok (.aload_n 1, 1) := by decide +kernel
theorem d_L_law_499 : decode b_L_law 499 = .ok (.aload_n 0, 1) := by decide +kernel
theorem d_L_law_500 : decode b_L_law 500 = .ok (.iload_n 3, 1) := by decide +kernel
theorem d_L_law_501 : decode b_L_law 501 = .ok (.iconst 1, 1) := by decide +kernel
theorem d_L_law_502 : decode b_L_law 502 = .ok (.iadd, 1) := by decide +kernel
theorem d_L_law_503 : decode b_L_law 503 = .ok (.iaload, 1) := by decide +kernel
theorem d_L_law_504 : decode b_L_law 504 = .ok (.aload_n 0, 1) := by decide +kernel
theorem d_L_law_505 : decode b_L_law 505 = .ok (.iload_n 3, 1) := by decide +kernel
theorem d_L_law_506 : decode b_L_law 506 = .ok (.iconst 2, 1) := by decide +kernel
theorem d_L_law_507 : decode b_L_law 507 = .ok (.iadd, 1) := by decide +kernel
theorem d_L_law_508 : decode b_L_law 508 = .ok (.iaload, 1) := by decide +kernel
theorem d_L_law_509 : decode b_L_law 509 = .ok (.invokevirtual 58, 3) := by decide +kernel
theorem d_L_law_512 : decode b_L_law 512 = .ok (.aload_n 2, 1) := by decide +kernel
theorem d_L_law_513 : decode b_L_law 513 = .ok (.aload_n 0, 1) := by decide +kernel
theorem d_L_law_514 : decode b_L_law 514 = .ok (.iload_n 3, 1) := by decide +kernel
theorem d_L_law_515 : decode b_L_law 515 = .ok (.iconst 1, 1) := by decide +kernel
theorem d_L_law_516 : decode b_L_law 516 = .ok (.iadd, 1) := by decide +kernel
theorem d_L_law_517 : decode b_L_law 517 = .ok (.iaload, 1) := by decide +kernel
theorem d_L_law_518 : decode b_L_law 518 = .ok (.aload_n 0, 1) := by decide +kernel
theorem d_L_law_519 : decode b_L_law 519 = .ok (.iload_n 3, 1) := by decide +kernel
theorem d_L_law_520 : decode b_L_law 520 = .ok (.iconst 2, 1) := by decide +kernel
theorem d_L_law_521 : decode b_L_law 521 = .ok (.iadd, 1) := by decide +kernel
theorem d_L_law_522 : decode b_L_law 522 = .ok (.iaload, 1) := by decide +kernel
theorem d_L_law_523 : decode b_L_law 523 = .ok (.invokevirtual 61, 3) := by decide +kernel
theorem d_L_law_526 : decode b_L_law 526 = .ok (.if_icmp .eq 140, 3) := by decide +kernel
theorem d_L_law_529 : decode b_L_law 529 = .ok (.iconst 0, 1) := by decide +kernel
theorem d_L_law_530 : decode b_L_law 530 = .ok (.ireturn, 1) := by decide +kernel
theorem d_L_law_531 : decode b_L_law 531 = .ok (.aload_n 1, 1) := by decide +kernel
theorem d_L_law_532 : decode b_L_law 532 = .ok (.aload_n 0, 1) := by decide +kernel
theorem d_L_law_533 : decode b_L_law 533 = .ok (.iload_n 3, 1) := by decide +kernel
theorem d_L_law_534 : decode b_L_law 534 = .ok (.iconst 1, 1) := by decide +kernel
theorem d_L_law_535 : decode b_L_law 535 = .ok (.iadd, 1) := by decide +kernel
theorem d_L_law_536 : decode b_L_law 536 = .ok (.iaload, 1) := by decide +kernel
theorem d_L_law_537 : decode b_L_law 537 = .ok (.aload_n 0, 1) := by decide +kernel
theorem d_L_law_538 : decode b_L_law 538 = .ok (.iload_n 3, 1) := by decide +kernel
theorem d_L_law_539 : decode b_L_law 539 = .ok (.iconst 2, 1) := by decide +kernel
theorem d_L_law_540 : decode b_L_law 540 = .ok (.iadd, 1) := by decide +kernel
theorem d_L_law_541 : decode b_L_law 541 = .ok (.iaload, 1) := by decide +kernel
theorem d_L_law_542 : decode b_L_law 542 = .ok (.invokevirtual 62, 3) := by decide +kernel
theorem d_L_law_545 : decode b_L_law 545 = .ok (.aload_n 2, 1) := by decide +kernel
theorem d_L_law_546 : decode b_L_law 546 = .ok (.aload_n 0, 1) := by decide +kernel
theorem d_L_law_547 : decode b_L_law 547 = .ok (.iload_n 3, 1) := by decide +kernel
theorem d_L_law_548 : decode b_L_law 548 = .ok (.iconst 1, 1) := by decide +kernel
theorem d_L_law_549 : decode b_L_law 549 = .ok (.iadd, 1) := by decide +kernel
theorem d_L_law_550 : decode b_L_law 550 = .ok (.iaload, 1) := by decide +kernel
theorem d_L_law_551 : decode b_L_law 551 = .ok (.aload_n 0, 1) := by decide +kernel
theorem d_L_law_552 : decode b_L_law 552 = .ok (.iload_n 3, 1) := by decide +kernel
theorem d_L_law_553 : decode b_L_law 553 = .ok (.iconst 2, 1) := by decide +kernel
theorem d_L_law_554 : decode b_L_law 554 = .ok (.iadd, 1) := by decide +kernel
theorem d_L_law_555 : decode b_L_law 555 = .ok (.iaload, 1) := by decide +kernel
theorem d_L_law_556 : decode b_L_law 556 = .ok (.invokevirtual 65, 3) := by decide +kernel
theorem d_L_law_559 : decode b_L_law 559 = .ok (.if_icmp .eq 107, 3) := by decide +kernel
theorem d_L_law_562 : decode b_L_law 562 = .ok (.iconst 0, 1) := by decide +kernel
theorem d_L_law_563 : decode b_L_law 563 = .ok (.ireturn, 1) := by decide +kernel
theorem d_L_law_564 : decode b_L_law 564 = .ok (.aload_n 1, 1) := by decide +kernel
theorem d_L_law_565 : decode b_L_law 565 = .ok (.aload_n 0, 1) := by decide +kernel
theorem d_L_law_566 : decode b_L_law 566 = .ok (.iload_n 3, 1) := by decide +kernel
theorem d_L_law_567 : decode b_L_law 567 = .ok (.iconst 1, 1) := by decide +kernel
theorem d_L_law_568 : decode b_L_law 568 = .ok (.iadd, 1) := by decide +kernel
theorem d_L_law_569 : decode b_L_law 569 = .ok (.iaload, 1) := by decide +kernel
theorem d_L_law_570 : decode b_L_law 570 = .ok (.invokevirtual 66, 3) := by decide +kernel
theorem d_L_law_573 : decode b_L_law 573 = .ok (.aload_n 2, 1) := by decide +kernel
theorem d_L_law_574 : decode b_L_law 574 = .ok (.aload_n 0, 1) := by decide +kernel
theorem d_L_law_575 : decode b_L_law 575 = .ok (.iload_n 3, 1) := by decide +kernel
theorem d_L_law_576 : decode b_L_law 576 = .ok (.iconst 1, 1) := by decide +kernel
theorem d_L_law_577 : decode b_L_law 577 = .ok (.iadd, 1) := by decide +kernel
theorem d_L_law_578 : decode b_L_law 578 = .ok (.iaload, 1) := by decide +kernel
theorem d_L_law_579 : decode b_L_law 579 = .ok (.invokevirtual 70, 3) := by decide +kernel
theorem d_L_law_582 : decode b_L_law 582 = .ok (.if_icmp .eq 84, 3) := by decide +kernel
theorem d_L_law_585 : decode b_L_law 585 = .ok (.iconst 0, 1) := by decide +kernel
theorem d_L_law_586 : decode b_L_law 586 = .ok (.ireturn, 1) := by decide +kernel
theorem d_L_law_587 : decode b_L_law 587 = .ok (.aload_n 1, 1) := by decide +kernel
theorem d_L_law_588 : decode b_L_law 588 = .ok (.aload_n 0, 1) := by decide +kernel
theorem d_L_law_589 : decode b_L_law 589 = .ok (.iload_n 3, 1) := by decide +kernel
theorem d_L_law_590 : decode b_L_law 590 = .ok (.iconst 1, 1) := by decide +kernel
theorem d_L_law_591 : decode b_L_law 591 = .ok (.iadd, 1) := by decide +kernel
theorem d_L_law_592 : decode b_L_law 592 = .ok (.iaload, 1) := by decide +kernel
theorem d_L_law_593 : decode b_L_law 593 = .ok (.invokevirtual 71, 3) := by decide +kernel
theorem d_L_law_596 : decode b_L_law 596 = .ok (.aload_n 2, 1) := by decide +kernel
theorem d_L_law_597 : decode b_L_law 597 = .ok (.aload_n 0, 1) := by decide +kernel
theorem d_L_law_598 : decode b_L_law 598 = .ok (.iload_n 3, 1) := by decide +kernel
theorem d_L_law_599 : decode b_L_law 599 = .ok (.iconst 1, 1) := by decide +kernel
theorem d_L_law_600 : decode b_L_law 600 = .ok (.iadd, 1) := by decide +kernel
theorem d_L_law_601 : decode b_L_law 601 = .ok (.iaload, 1) := by decide +kernel
theorem d_L_law_602 : decode b_L_law 602 = .ok (.invokevirtual 74, 3) := by decide +kernel
theorem d_L_law_605 : decode b_L_law 605 = .ok (.if_icmp .eq 61, 3) := by decide +kernel
theorem d_L_law_608 : decode b_L_law 608 = .ok (.iconst 0, 1) := by decide +kernel
theorem d_L_law_609 : decode b_L_law 609 = .ok (.ireturn, 1) := by decide +kernel
theorem d_L_law_610 : decode b_L_law 610 = .ok (.aload_n 1, 1) := by decide +kernel
theorem d_L_law_611 : decode b_L_law 611 = .ok (.aload_n 0, 1) := by decide +kernel
theorem d_L_law_612 : decode b_L_law 612 = .ok (.iload_n 3, 1) := by decide +kernel
theorem d_L_law_613 : decode b_L_law 613 = .ok (.iconst 1, 1) := by decide +kernel
theorem d_L_law_614 : decode b_L_law 614 = .ok (.iadd, 1) := by decide +kernel
theorem d_L_law_615 : decode b_L_law 615 = .ok (.iaload, 1) := by decide +kernel
theorem d_L_law_616 : decode b_L_law 616 = .ok (.aload_n 0, 1) := by decide +kernel
theorem d_L_law_617 : decode b_L_law 617 = .ok (.iload_n 3, 1) := by decide +kernel
theorem d_L_law_618 : decode b_L_law 618 = .ok (.iconst 2, 1) := by decide +kernel
theorem d_L_law_619 : decode b_L_law 619 = .ok (.iadd, 1) := by decide +kernel
theorem d_L_law_620 : decode b_L_law 620 = .ok (.iaload, 1) := by decide +kernel
theorem d_L_law_621 : decode b_L_law 621 = .ok (.invokevirtual 75, 3) := by decide +kernel
theorem d_L_law_624 : decode b_L_law 624 = .ok (.aload_n 2, 1) := by decide +kernel
theorem d_L_law_625 : decode b_L_law 625 = .ok (.aload_n 0, 1) := by decide +kernel
theorem d_L_law_626 : decode b_L_law 626 = .ok (.iload_n 3, 1) := by decide +kernel
theorem d_L_law_627 : decode b_L_law 627 = .ok (.iconst 1, 1) := by decide +kernel
theorem d_L_law_628 : decode b_L_law 628 = .ok (.iadd, 1) := by decide +kernel
theorem d_L_law_629 : decode b_L_law 629 = .ok (.iaload, 1) := by decide +kernel
theorem d_L_law_630 : decode b_L_law 630 = .ok (.aload_n 0, 1) := by decide +kernel
theorem d_L_law_631 : decode b_L_law 631 = .ok (.iload_n 3, 1) := by decide +kernel
theorem d_L_law_632 : decode b_L_law 632 = .ok (.iconst 2, 1) := by decide +kernel
theorem d_L_law_633 : decode b_L_law 633 = .ok (.iadd, 1) := by decide +kernel
theorem d_L_law_634 : decode b_L_law 634 = .ok (.iaload, 1) := by decide +kernel
theorem d_L_law_635 : decode b_L_law 635 = .ok (.invokevirtual 78, 3) := by decide +kernel
theorem d_L_law_638 : decode b_L_law 638 = .ok (.if_icmp .eq 28, 3) := by decide +kernel
theorem d_L_law_641 : decode b_L_law 641 = .ok (.iconst 0, 1) := by decide +kernel
theorem d_L_law_642 : decode b_L_law 642 = .ok (.ireturn, 1) := by decide +kernel
theorem d_L_law_643 : decode b_L_law 643 = .ok (.aload_n 1, 1) := by decide +kernel
theorem d_L_law_644 : decode b_L_law 644 = .ok (.aload_n 0, 1) := by decide +kernel
theorem d_L_law_645 : decode b_L_law 645 = .ok (.iload_n 3, 1) := by decide +kernel
theorem d_L_law_646 : decode b_L_law 646 = .ok (.iconst 1, 1) := by decide +kernel
theorem d_L_law_647 : decode b_L_law 647 = .ok (.iadd, 1) := by decide +kernel
theorem d_L_law_648 : decode b_L_law 648 = .ok (.iaload, 1) := by decide +kernel
theorem d_L_law_649 : decode b_L_law 649 = .ok (.invokevirtual 79, 3) := by decide +kernel
theorem d_L_law_652 : decode b_L_law 652 = .ok (.aload_n 2, 1) := by decide +kernel
theorem d_L_law_653 : decode b_L_law 653 = .ok (.aload_n 0, 1) := by decide +kernel
theorem d_L_law_654 : decode b_L_law 654 = .ok (.iload_n 3, 1) := by decide +kernel
theorem d_L_law_655 : decode b_L_law 655 = .ok (.iconst 1, 1) := by decide +kernel
theorem d_L_law_656 : decode b_L_law 656 = .ok (.iadd, 1) := by decide +kernel
theorem d_L_law_657 : decode b_L_law 657 = .ok (.iaload, 1) := by decide +kernel
theorem d_L_law_658 : decode b_L_law 658 = .ok (.invokevirtual 82, 3) := by decide +kernel
theorem d_L_law_661 : decode b_L_law 661 = .ok (.if_icmp .eq 5, 3) := by decide +kernel
theorem d_L_law_664 : decode b_L_law 664 = .ok (.iconst 0, 1) := by decide +kernel
theorem d_L_law_665 : decode b_L_law 665 = .ok (.ireturn, 1) := by decide +kernel
theorem d_L_law_666 : decode b_L_law 666 = .ok (.iinc 3 5, 3) := by decide +kernel
theorem d_L_law_669 : decode b_L_law 669 = .ok (.goto (-651), 3) := by decide +kernel
theorem d_L_law_672 : decode b_L_law 672 = .ok (.iconst 1, 1) := by decide +kernel
theorem d_L_law_673 : decode b_L_law 673 = .ok (.ireturn, 1) := by decide +kernel
end
section
/-! numbers, sums and arrays as functions on Int: words for the state -/
def up_ (f : Int → Int) (i v : Int) : Int → Int := fun j => if j = i then v else f j
theorem up_s {f : Int → Int} {i v : Int} : up_ f i v i = v := by simp [up_]
theorem up_n {f : Int → Int} {i v j : Int} (h : j ≠ i) : up_ f i v j = f j := by simp [up_, h]
/-- f 0 + .. + f (n - 1) -/
def sm (f : Int → Int) : Nat → Int
  | 0 => 0
  | n + 1 => sm f n + f n
theorem sm_congr {f g : Int → Int} : ∀ (n : Nat), (∀ j : Int, 0 ≤ j → j < n → f j = g j) → sm f n = sm g n
  | 0, _ => rfl
  | n + 1, h => by
    simp only [sm]
    rw [sm_congr n (fun j h0 h1 => h j h0 (by omega)), h n (by omega) (by omega)]
theorem sm_le {f g : Int → Int} : ∀ (n : Nat), (∀ j : Int, 0 ≤ j → j < n → f j ≤ g j) → sm f n ≤ sm g n
  | 0, _ => Int.le_refl _
  | n + 1, h => by
    simp only [sm]
    have h1 := sm_le n (fun j h0 h1 => h j h0 (by omega))
    have h2 := h n (by omega) (by omega)
    omega
theorem sm_zero : ∀ (n : Nat), sm (fun _ => 0) n = 0
  | 0 => rfl
  | n + 1 => by simp only [sm]; rw [sm_zero n]; omega
theorem sm_nn {f : Int → Int} (n : Nat) (h : ∀ j : Int, 0 ≤ j → j < n → 0 ≤ f j) : 0 ≤ sm f n := by
  have := sm_le (f := fun _ => 0) (g := f) n h
  rw [sm_zero] at this
  exact this
theorem sm_add (f g : Int → Int) : ∀ (n : Nat), sm (fun j => f j + g j) n = sm f n + sm g n
  | 0 => rfl
  | n + 1 => by simp only [sm]; rw [sm_add f g n]; omega
theorem sm_sub (f g : Int → Int) : ∀ (n : Nat), sm (fun j => f j - g j) n = sm f n - sm g n
  | 0 => rfl
  | n + 1 => by simp only [sm]; rw [sm_sub f g n]; omega
/-- one place differs -/
theorem sm_one {f g : Int → Int} {i : Int} (h0 : 0 ≤ i) : ∀ (n : Nat), i < n → (∀ j : Int, 0 ≤ j → j < n → j ≠ i → g j = f j) → sm g n = sm f n - f i + g i
  | 0, h, _ => by omega
  | n + 1, h, hg => by
    simp only [sm]
    by_cases e : i = n
    · subst e
      rw [sm_congr n (f := g) (g := f) (fun j h0 h1 => hg j h0 (by omega) (by omega))]
      omega
    · have h1 := sm_one h0 n (by omega) (fun j a b c => hg j a (by omega) c)
      have h2 := hg n (by omega) (by omega) (fun q => e q.symm)
      omega
theorem sm_up {f : Int → Int} {i v : Int} (h0 : 0 ≤ i) (n : Nat) (h : i < n) : sm (up_ f i v) n = sm f n - f i + v := by
  have := sm_one (f := f) (g := up_ f i v) h0 n h (fun j _ _ hj => up_n hj)
  rw [up_s] at this
  exact this
/-- a sum of nothing negative has each part below it -/
theorem sm_part {f : Int → Int} (n : Nat) (h : ∀ j : Int, 0 ≤ j → j < n → 0 ≤ f j) {i : Int} (h0 : 0 ≤ i) (hi : i < n) : f i ≤ sm f n := by
  have h1 := sm_one (f := f) (g := fun j => if j = i then 0 else f j) h0 n hi (fun j _ _ hj => by simp [hj])
  have h2 := sm_nn (f := fun j => if j = i then 0 else f j) n (fun j a b => by
    by_cases e : j = i
    · simp [e]
    · simp [e]; exact h j a b)
  simp at h1
  omega
/-- a positive sum has a positive part -/
theorem sm_pos {f : Int → Int} (n : Nat) (h : 0 < sm f n) : ∃ j : Int, 0 ≤ j ∧ j < n ∧ 0 < f j := by
  refine Classical.byContradiction (fun hn => ?_)
  have := sm_le (f := f) (g := fun _ => 0) n (fun j a b => by
    refine Classical.byContradiction (fun q => hn ⟨j, a, b, by omega⟩))
  rw [sm_zero] at this
  omega
/-- how often v stands among f 0 .. f (n - 1) -/
def ct (f : Int → Int) (v : Int) (n : Nat) : Int := sm (fun j => if f j = v then 1 else 0) n
theorem ct_0 (f : Int → Int) (v : Int) : ct f v 0 = 0 := rfl
theorem ct_s (f : Int → Int) (v : Int) (n : Nat) : ct f v (n + 1) = ct f v n + (if f n = v then 1 else 0) := rfl
theorem ct_congr {f g : Int → Int} (v : Int) (n : Nat) (h : ∀ j : Int, 0 ≤ j → j < n → f j = g j) : ct f v n = ct g v n :=
  sm_congr n (fun j a b => by rw [h j a b])
theorem ct_up {f : Int → Int} {i x : Int} (v : Int) (h0 : 0 ≤ i) (n : Nat) (h : i < n) : ct (up_ f i x) v n = ct f v n - (if f i = v then 1 else 0) + (if x = v then 1 else 0) := by
  have := sm_one (f := fun j => if f j = v then 1 else 0) (g := fun j => if up_ f i x j = v then 1 else 0) h0 n h (fun j _ _ hj => by simp only [up_n hj])
  simp only [up_s] at this
  exact this
theorem ct_nn (f : Int → Int) (v : Int) (n : Nat) : 0 ≤ ct f v n := sm_nn n (fun j _ _ => by split <;> omega)
theorem ct_pos {f : Int → Int} {v : Int} {n : Nat} (h : 0 < ct f v n) : ∃ j : Int, 0 ≤ j ∧ j < n ∧ f j = v := by
  obtain ⟨j, a, b, c⟩ := sm_pos n h
  refine ⟨j, a, b, ?_⟩
  refine Classical.byContradiction (fun q => ?_)
  simp [q] at c
theorem ct_in {f : Int → Int} {n : Nat} {i : Int} (h0 : 0 ≤ i) (hi : i < n) : 0 < ct f (f i) n := by
  have := sm_part (f := fun j => if f j = f i then 1 else 0) n (fun j _ _ => by split <;> omega) h0 hi
  simp at this
  unfold ct
  omega
end
section
/-! the paths of a graph: n arcs, from F, to T, shut Sh (0: no), goal b; all of them in the order in which a search meets them -/
def dk (n : Nat) : List Int := (List.range n).map (fun (k : Nat) => (k : Int))
theorem dk_len (n : Nat) : (dk n).length = n := by simp [dk]
theorem dk_mem {n : Nat} {k : Int} : k ∈ dk n ↔ 0 ≤ k ∧ k < n := by
  simp only [dk, List.mem_map, List.mem_range]
  constructor
  · rintro ⟨a, h, rfl⟩; omega
  · rintro ⟨h0, h1⟩; exact ⟨k.toNat, by omega, by omega⟩
theorem dk_succ (n : Nat) : dk (n + 1) = dk n ++ [(n : Int)] := by simp [dk, List.range_succ]
theorem dk_drop {n k : Nat} (h : k < n) : (dk n).drop k = (k : Int) :: (dk n).drop (k + 1) := by
  rw [List.drop_eq_getElem_cons (by rw [dk_len]; exact h)]
  simp [dk]
theorem dk_drop_n (n : Nat) : (dk n).drop n = [] := List.drop_eq_nil_of_le (by rw [dk_len]; exact Nat.le_refl _)
/-- what one arc k out of u gives -/
def db (F T Sh : Int → Int) (u : Int) (seen : List Int) (rest : Int → List (List Int)) (k : Int) : List (List Int) :=
  if F k = u ∧ Sh k = 0 ∧ T k ∉ u :: seen then (rest (T k)).map (fun P => k :: P) else []
def df (n : Nat) (F T Sh : Int → Int) (b : Int) : Nat → Int → List Int → List (List Int)
  | 0, u, _ => if u = b then [[]] else []
  | d + 1, u, seen => if u = b then [[]] else (dk n).flatMap (db F T Sh u seen (fun v => df n F T Sh b d v (u :: seen)))
theorem df_b {n : Nat} {F T Sh : Int → Int} {b : Int} (d : Nat) (seen : List Int) : df n F T Sh b d b seen = [[]] := by
  cases d <;> simp [df]
theorem df_s {n : Nat} {F T Sh : Int → Int} {b u : Int} (h : u ≠ b) (d : Nat) (seen : List Int) : df n F T Sh b (d + 1) u seen = (dk n).flatMap (db F T Sh u seen (fun v => df n F T Sh b d v (u :: seen))) := by
  simp [df, h]
/-- P is a path from u to b that comes to no node of seen, and to none twice -/
def vq (n : Nat) (F T Sh : Int → Int) (b : Int) : Int → List Int → List Int → Prop
  | u, _, [] => u = b
  | u, seen, k :: P => u ≠ b ∧ 0 ≤ k ∧ k < n ∧ F k = u ∧ Sh k = 0 ∧ T k ∉ u :: seen ∧ vq n F T Sh b (T k) (u :: seen) P
theorem df_mem {n : Nat} {F T Sh : Int → Int} {b : Int} : ∀ (d : Nat) (u : Int) (seen P : List Int), P ∈ df n F T Sh b d u seen ↔ vq n F T Sh b u seen P ∧ P.length ≤ d := by
  intro d
  induction d with
  | zero =>
    intro u seen P
    by_cases h : u = b
    · cases P with
      | nil => simp [df, h, vq]
      | cons k P => simp [df, h, vq]
    · cases P with
      | nil => simp [df, h, vq]
      | cons k P => simp [df, h, vq]
  | succ d ih =>
    intro u seen P
    by_cases h : u = b
    · subst h
      cases P with
      | nil => simp [df, vq]
      | cons k P => simp [df, vq]
    · rw [df_s h]
      cases P with
      | nil =>
        simp only [vq, h, false_and, iff_false]
        intro hm
        obtain ⟨k, -, hk⟩ := List.mem_flatMap.mp hm
        unfold db at hk
        split at hk
        · obtain ⟨q, -, hq⟩ := List.mem_map.mp hk; cases hq
        · cases hk
      | cons k P =>
        rw [List.mem_flatMap]
        constructor
        · rintro ⟨k', hk', hm⟩
          unfold db at hm
          split at hm
          · next hc =>
            obtain ⟨q, hq, he⟩ := List.mem_map.mp hm
            injection he with e1 e2
            subst e1; subst e2
            obtain ⟨h1, h2⟩ := (ih _ _ _).mp hq
            obtain ⟨g0, g1⟩ := dk_mem.mp hk'
            exact ⟨⟨h, g0, g1, hc.1, hc.2.1, hc.2.2, h1⟩, by simp only [List.length_cons]; omega⟩
          · cases hm
        · rintro ⟨⟨-, g0, g1, c1, c2, c3, hv⟩, hl⟩
          simp only [List.length_cons] at hl
          refine ⟨k, dk_mem.mpr ⟨g0, g1⟩, ?_⟩
          unfold db
          rw [if_pos ⟨c1, c2, c3⟩]
          exact List.mem_map.mpr ⟨P, (ih _ _ _).mpr ⟨hv, by omega⟩, rfl⟩
/-- a path is shorter than there are nodes -/
theorem vq_len {n : Nat} {F T Sh : Int → Int} {b : Int} {N : Nat} (hT : ∀ k : Int, 0 ≤ k → k < n → 0 ≤ T k ∧ T k < N) : ∀ (P : List Int) (u : Int) (seen : List Int), (u :: seen).Nodup → (∀ v, v ∈ u :: seen → 0 ≤ v ∧ v < (N : Int)) → vq n F T Sh b u seen P → P.length + seen.length + 1 ≤ N := by
  intro P
  induction P with
  | nil =>
    intro u seen hn hi _
    have := hn.length_le_of_subset (l₂ := dk N) (fun v hv => dk_mem.mpr (hi v hv))
    rw [dk_len] at this
    simp only [List.length_cons, List.length_nil] at this ⊢
    omega
  | cons k P ih =>
    intro u seen hn hi hv
    obtain ⟨-, g0, g1, -, -, c3, hv⟩ := hv
    have := ih (T k) (u :: seen) (List.nodup_cons.mpr ⟨c3, hn⟩) (fun v hm => by
      rcases List.mem_cons.mp hm with rfl | hm
      · exact hT k g0 g1
      · exact hi v hm) hv
    simp only [List.length_cons] at this ⊢
    omega
/-- the arcs of a path are arcs -/
theorem vq_arcs {n : Nat} {F T Sh : Int → Int} {b : Int} : ∀ (P : List Int) (u : Int) (seen : List Int), vq n F T Sh b u seen P → ∀ k ∈ P, 0 ≤ k ∧ k < n := by
  intro P
  induction P with
  | nil => intro u seen _ k hk; cases hk
  | cons a P ih =>
    intro u seen hv k hk
    obtain ⟨-, g0, g1, -, -, -, hv⟩ := hv
    rcases List.mem_cons.mp hk with rfl | hk
    · exact ⟨g0, g1⟩
    · exact ih _ _ hv k hk
/-! there are 1458 paths at most -/
/-- how many of the first n arcs leave u -/
def dr (F : Int → Int) (u : Int) : Nat → Nat
  | 0 => 0
  | n + 1 => dr F u n + (if F n = u then 1 else 0)
theorem df_cnt {F T Sh : Int → Int} {u : Int} {seen : List Int} {rest : Int → List (List Int)} {B : Nat} (hB : ∀ k : Int, F k = u → T k ∉ u :: seen → (rest (T k)).length ≤ B) : ∀ n : Nat, ((dk n).flatMap (db F T Sh u seen rest)).length ≤ dr F u n * B := by
  intro n
  induction n with
  | zero => simp [dk]
  | succ n ih =>
    rw [dk_succ, List.flatMap_append, List.length_append]
    have h2 : ([(n : Int)].flatMap (db F T Sh u seen rest)).length ≤ (if F n = u then 1 else 0) * B := by
      simp only [List.flatMap_cons, List.flatMap_nil, List.append_nil]
      unfold db
      split
      · next hc =>
        rw [List.length_map, if_pos hc.1, Nat.one_mul]
        exact hB n hc.1 hc.2.2
      · simp
    simp only [dr, Nat.add_mul]
    omega
/-- the product of what leaves each node below m, but those of ex and b -/
def pr_ (F : Int → Int) (n : Nat) (b : Int) (ex : List Int) : Nat → Nat
  | 0 => 1
  | v + 1 => pr_ F n b ex v * (if (v : Int) ∈ ex ∨ (v : Int) = b then 1 else max 1 (dr F v n))
theorem pr_pos {F : Int → Int} {n : Nat} {b : Int} {ex : List Int} : ∀ m : Nat, 1 ≤ pr_ F n b ex m := by
  intro m
  induction m with
  | zero => exact Nat.le_refl _
  | succ m ih =>
    simp only [pr_]
    refine Nat.le_trans ih (Nat.le_mul_of_pos_right _ ?_)
    split <;> omega
theorem pr_skip {F : Int → Int} {n : Nat} {b u : Int} {ex : List Int} : ∀ m : Nat, (m : Int) ≤ u → pr_ F n b (u :: ex) m = pr_ F n b ex m := by
  intro m
  induction m with
  | zero => intro _; rfl
  | succ m ih =>
    intro h
    have hne : ¬ (m : Int) = u := by omega
    simp only [pr_, List.mem_cons, hne, false_or]
    rw [ih (by omega)]
theorem pr_cut {F : Int → Int} {n : Nat} {b u : Int} {ex : List Int} (h1 : u ∉ ex) (h2 : u ≠ b) (h0 : 0 ≤ u) : ∀ m : Nat, u < m → pr_ F n b ex m = max 1 (dr F u n) * pr_ F n b (u :: ex) m := by
  intro m
  induction m with
  | zero => intro h; omega
  | succ m ih =>
    intro h
    by_cases e : u = m
    · subst e
      have hc : ¬ ((m : Int) ∈ ex ∨ (m : Int) = b) := fun q => q.elim h1 h2
      simp only [pr_, hc, if_false, List.mem_cons, true_or, if_true, Nat.mul_one]
      rw [pr_skip m (Int.le_refl _), Nat.mul_comm]
    · have hne : ¬ (m : Int) = u := fun q => e q.symm
      simp only [pr_, List.mem_cons, hne, false_or]
      rw [ih (by omega), Nat.mul_assoc]
theorem df_prod {n : Nat} {F T Sh : Int → Int} {b : Int} (hT : ∀ k : Int, 0 ≤ T k ∧ T k < 8) : ∀ (d : Nat) (u : Int) (seen : List Int), u ∉ seen → 0 ≤ u → u < 8 → (df n F T Sh b d u seen).length ≤ pr_ F n b seen 8 := by
  intro d
  induction d with
  | zero =>
    intro u seen _ _ _
    refine Nat.le_trans ?_ (pr_pos 8)
    simp only [df]
    split <;> simp
  | succ d ih =>
    intro u seen hu h0 h8
    by_cases h : u = b
    · subst h
      rw [df_b]
      exact pr_pos 8
    · rw [df_s h, pr_cut hu h h0 8 (by omega)]
      refine Nat.le_trans (df_cnt (B := pr_ F n b (u :: seen) 8) (fun k _ hk => ih (T k) (u :: seen) hk (hT k).1 (hT k).2) n) ?_
      exact Nat.mul_le_mul_right _ (Nat.le_max_right _ _)
/-- greatest products of k numbers that are s together -/
def tb_ : List (List Nat) := [[1, 1, 1, 1, 1, 1, 1, 1, 1, 1, 1, 1, 1, 1, 1, 1, 1, 1, 1, 1, 1], [1, 1, 2, 3, 4, 5, 6, 7, 8, 9, 10, 11, 12, 13, 14, 15, 16, 17, 18, 19, 20], [1, 1, 2, 3, 4, 6, 9, 12, 16, 20, 25, 30, 36, 42, 49, 56, 64, 72, 81, 90, 100], [1, 1, 2, 3, 4, 6, 9, 12, 18, 27, 36, 48, 64, 80, 100, 125, 150, 180, 216, 252, 294], [1, 1, 2, 3, 4, 6, 9, 12, 18, 27, 36, 54, 81, 108, 144, 192, 256, 320, 400, 500, 625], [1, 1, 2, 3, 4, 6, 9, 12, 18, 27, 36, 54, 81, 108, 162, 243, 324, 432, 576, 768, 1024], [1, 1, 2, 3, 4, 6, 9, 12, 18, 27, 36, 54, 81, 108, 162, 243, 324, 486, 729, 972, 1296], [1, 1, 2, 3, 4, 6, 9, 12, 18, 27, 36, 54, 81, 108, 162, 243, 324, 486, 729, 972, 1458]]
def tb (k s : Nat) : Nat := (tb_.getD k []).getD s 0
theorem tb_step : ∀ k, k < 7 → ∀ s, s < 21 → ∀ d, d < s + 1 → max 1 d * tb k (s - d) ≤ tb (k + 1) s := by decide +kernel
theorem tb_end : ∀ s, s < 21 → tb 7 s ≤ 1458 := by decide +kernel
theorem tb_zero : ∀ s, s < 21 → tb 0 s = 1 := by decide +kernel
/-- how many arcs leave the nodes below m, but b -/
def ds (F : Int → Int) (n : Nat) (b : Int) : Nat → Nat
  | 0 => 0
  | v + 1 => ds F n b v + (if (v : Int) = b then 0 else dr F v n)
theorem ds_le {F : Int → Int} {b : Int} : ∀ n m : Nat, ds F n b m ≤ n := by
  have h1 : ∀ m : Nat, ds F 0 b m = 0 := by
    intro m
    induction m with
    | zero => rfl
    | succ m ih => simp only [ds, ih, dr]; split <;> rfl
  have h2 : ∀ n m : Nat, ds F (n + 1) b m ≤ ds F n b m + (if 0 ≤ F n ∧ F n < m then 1 else 0) := by
    intro n m
    induction m with
    | zero => simp [ds]
    | succ m ih =>
      simp only [ds, dr]
      by_cases e : F n = m
      · have c1 : ¬ (0 ≤ F n ∧ F n < (m : Int)) := by omega
        have c2 : 0 ≤ F n ∧ F n < ((m + 1 : Nat) : Int) := by omega
        rw [if_neg c1] at ih
        rw [if_pos c2, if_pos e]
        split <;> omega
      · rw [if_neg e]
        by_cases c1 : 0 ≤ F n ∧ F n < (m : Int)
        · have c2 : 0 ≤ F n ∧ F n < ((m + 1 : Nat) : Int) := by omega
          rw [if_pos c1] at ih
          rw [if_pos c2]
          split <;> omega
        · have c2 : ¬ (0 ≤ F n ∧ F n < ((m + 1 : Nat) : Int)) := by omega
          rw [if_neg c1] at ih
          rw [if_neg c2]
          split <;> omega
  intro n
  induction n with
  | zero => intro m; rw [h1]; exact Nat.le_refl _
  | succ n ih =>
    intro m
    have := h2 n m
    have := ih m
    split at * <;> omega
/-- how many nodes below m aren't b -/
def nb (b : Int) : Nat → Nat
  | 0 => 0
  | v + 1 => nb b v + (if (v : Int) = b then 0 else 1)
theorem nb_le {b : Int} (h0 : 0 ≤ b) : ∀ m : Nat, nb b m + (if b < m then 1 else 0) = m := by
  intro m
  induction m with
  | zero => simp [nb]; omega
  | succ m ih =>
    simp only [nb]
    by_cases e : (m : Int) = b
    · rw [if_pos e, if_pos (by omega)]
      rw [if_neg (by omega)] at ih
      omega
    · rw [if_neg e]
      by_cases c : b < m
      · rw [if_pos c] at ih
        rw [if_pos (by omega)]
        omega
      · rw [if_neg c] at ih
        rw [if_neg (by omega)]
        omega
theorem pr_tb {F : Int → Int} {n : Nat} {b : Int} (hn : n ≤ 20) (h0 : 0 ≤ b) (h8 : b < 8) : ∀ m : Nat, m ≤ 8 → pr_ F n b [] m ≤ tb (nb b m) (ds F n b m) := by
  intro m
  induction m with
  | zero => intro _; simp only [pr_, nb, ds]; rw [tb_zero 0 (by omega)]; exact Nat.le_refl _
  | succ m ih =>
    intro hm
    have h1 := ih (by omega)
    simp only [pr_, nb, ds, List.not_mem_nil, false_or]
    by_cases e : (m : Int) = b
    · rw [if_pos e, if_pos e, if_pos e, Nat.mul_one, Nat.add_zero, Nat.add_zero]
      exact h1
    · rw [if_neg e, if_neg e, if_neg e]
      have hb := nb_le (b := b) h0 m
      have hb2 := nb_le (b := b) h0 (m + 1)
      have hk : nb b m < 7 := by
        simp only [nb] at hb2
        rw [if_neg e] at hb2
        split at hb2
        · split at hb <;> omega
        · omega
      have hs : ds F n b m + dr F m n < 21 := by
        have := ds_le (F := F) (b := b) n (m + 1)
        simp only [ds] at this
        rw [if_neg e] at this
        omega
      have h2 := tb_step (nb b m) hk (ds F n b m + dr F m n) hs (dr F m n) (by omega)
      rw [Nat.add_sub_cancel] at h2
      refine Nat.le_trans (Nat.mul_le_mul_right _ h1) ?_
      rw [Nat.mul_comm]
      exact h2
theorem df_max {n : Nat} {F T Sh : Int → Int} {b : Int} (hT : ∀ k : Int, 0 ≤ T k ∧ T k < 8) (hn : n ≤ 20) (h0 : 0 ≤ b) (h8 : b < 8) (d : Nat) {u : Int} (hu0 : 0 ≤ u) (hu : u < 8) : (df n F T Sh b d u []).length ≤ 1458 := by
  have h1 := df_prod (n := n) (F := F) (Sh := Sh) (b := b) hT d u [] (by simp) hu0 hu
  have h2 := pr_tb (F := F) (n := n) hn h0 h8 8 (Nat.le_refl _)
  have h3 := nb_le (b := b) h0 8
  rw [if_pos (by omega)] at h3
  have h4 : nb b 8 = 7 := by omega
  rw [h4] at h2
  have h5 := tb_end (ds F n b 8) (by have := ds_le (F := F) (b := b) n 8; omega)
  omega
end
section
/-! a path as one number: its weight, its length, its arcs -/
def wp (W : Int → Int) : List Int → Int
  | [] => 0
  | k :: P => W k + wp W P
theorem wp_app {W : Int → Int} : ∀ (P Q : List Int), wp W (P ++ Q) = wp W P + wp W Q
  | [], Q => by simp [wp]
  | k :: P, Q => by simp only [List.cons_append, wp]; rw [wp_app P Q]; omega
theorem wp_bd {W : Int → Int} (hW : ∀ k, 0 ≤ W k ∧ W k ≤ 1000) : ∀ P : List Int, 0 ≤ wp W P ∧ wp W P ≤ 1000 * P.length
  | [] => by simp [wp]
  | k :: P => by
    have h1 := wp_bd hW P
    have h2 := hW k
    simp only [wp, List.length_cons]
    omega
def rw_ (P : List Int) : Int := P.foldl (fun r k => r * 32 + k) 0
theorem rw_app (P : List Int) (k : Int) : rw_ (P ++ [k]) = rw_ P * 32 + k := by simp [rw_]
def cd (W : Int → Int) (P : List Int) : Int := wp W P * 274877906944 + P.length * 34359738368 + rw_ P * 32 ^ (7 - P.length)
/-- arc i of a number -/
def ar_ (c i : Int) : Int := c / 2 ^ (5 * (6 - i)).toNat % 32
def ok5 (P : List Int) : Prop := P.length ≤ 7 ∧ ∀ k ∈ P, 0 ≤ k ∧ k < 32
theorem rw_bd {P : List Int} (h : ok5 P) : 0 ≤ rw_ P * 32 ^ (7 - P.length) ∧ rw_ P * 32 ^ (7 - P.length) < 34359738368 := by
  obtain ⟨hl, hk⟩ := h
  match P, hl, hk with
  | [], _, _ => simp [rw_]
  | [a], _, hk =>
    have := hk a (by simp)
    simp [rw_]; omega
  | [a, b], _, hk =>
    have := hk a (by simp); have := hk b (by simp)
    simp [rw_]; omega
  | [a, b, c], _, hk =>
    have := hk a (by simp); have := hk b (by simp); have := hk c (by simp)
    simp [rw_]; omega
  | [a, b, c, d], _, hk =>
    have := hk a (by simp); have := hk b (by simp); have := hk c (by simp); have := hk d (by simp)
    simp [rw_]; omega
  | [a, b, c, d, e], _, hk =>
    have := hk a (by simp); have := hk b (by simp); have := hk c (by simp); have := hk d (by simp); have := hk e (by simp)
    simp [rw_]; omega
  | [a, b, c, d, e, f], _, hk =>
    have := hk a (by simp); have := hk b (by simp); have := hk c (by simp); have := hk d (by simp); have := hk e (by simp); have := hk f (by simp)
    simp [rw_]; omega
  | [a, b, c, d, e, f, g], _, hk =>
    have := hk a (by simp); have := hk b (by simp); have := hk c (by simp); have := hk d (by simp); have := hk e (by simp); have := hk f (by simp); have := hk g (by simp)
    simp [rw_]; omega
  | a :: b :: c :: d :: e :: f :: g :: x :: y, hl, _ => simp only [List.length_cons] at hl; omega
theorem cd_w {W : Int → Int} {P : List Int} (h : ok5 P) : cd W P / 274877906944 = wp W P := by
  have h1 := rw_bd h
  have h2 := h.1
  unfold cd
  omega
theorem cd_l {W : Int → Int} {P : List Int} (h : ok5 P) : cd W P / 34359738368 % 8 = P.length := by
  have h1 := rw_bd h
  have h2 := h.1
  unfold cd
  omega
theorem cd_bd {W : Int → Int} (hW : ∀ k, 0 ≤ W k ∧ W k ≤ 1000) {P : List Int} (h : ok5 P) : 0 ≤ cd W P ∧ cd W P < 2251799813685248 := by
  have h1 := rw_bd h
  have h2 := h.1
  have h3 := wp_bd hW P
  unfold cd
  omega
/-- the number's arcs are the path's -/
theorem cd_a {W : Int → Int} {P : List Int} (h : ok5 P) : ∀ i : Nat, i < P.length → ar_ (cd W P) i = P.getD i 0 := by
  obtain ⟨hl, hk⟩ := h
  generalize hw : wp W P = w
  match P, hl, hk with
  | [], _, _ => intro i hi; simp at hi
  | [a], _, hk =>
    have := hk a (by simp)
    intro i hi
    match i, hi with
    | 0, _ => simp only [ar_, cd, hw]; simp [rw_]; omega
    | i + 1, hi => (exfalso; simp only [List.length_cons, List.length_nil] at hi; omega)
  | [a, b], _, hk =>
    have := hk a (by simp); have := hk b (by simp)
    intro i hi
    match i, hi with
    | 0, _ => simp only [ar_, cd, hw]; simp [rw_]; omega
    | 1, _ => simp only [ar_, cd, hw]; simp [rw_]; omega
    | i + 2, hi => (exfalso; simp only [List.length_cons, List.length_nil] at hi; omega)
  | [a, b, c], _, hk =>
    have := hk a (by simp); have := hk b (by simp); have := hk c (by simp)
    intro i hi
    match i, hi with
    | 0, _ => simp only [ar_, cd, hw]; simp [rw_]; omega
    | 1, _ => simp only [ar_, cd, hw]; simp [rw_]; omega
    | 2, _ => simp only [ar_, cd, hw]; simp [rw_]; omega
    | i + 3, hi => (exfalso; simp only [List.length_cons, List.length_nil] at hi; omega)
  | [a, b, c, d], _, hk =>
    have := hk a (by simp); have := hk b (by simp); have := hk c (by simp); have := hk d (by simp)
    intro i hi
    match i, hi with
    | 0, _ => simp only [ar_, cd, hw]; simp [rw_]; omega
    | 1, _ => simp only [ar_, cd, hw]; simp [rw_]; omega
    | 2, _ => simp only [ar_, cd, hw]; simp [rw_]; omega
    | 3, _ => simp only [ar_, cd, hw]; simp [rw_]; omega
    | i + 4, hi => (exfalso; simp only [List.length_cons, List.length_nil] at hi; omega)
  | [a, b, c, d, e], _, hk =>
    have := hk a (by simp); have := hk b (by simp); have := hk c (by simp); have := hk d (by simp); have := hk e (by simp)
    intro i hi
    match i, hi with
    | 0, _ => simp only [ar_, cd, hw]; simp [rw_]; omega
    | 1, _ => simp only [ar_, cd, hw]; simp [rw_]; omega
    | 2, _ => simp only [ar_, cd, hw]; simp [rw_]; omega
    | 3, _ => simp only [ar_, cd, hw]; simp [rw_]; omega
    | 4, _ => simp only [ar_, cd, hw]; simp [rw_]; omega
    | i + 5, hi => (exfalso; simp only [List.length_cons, List.length_nil] at hi; omega)
  | [a, b, c, d, e, f], _, hk =>
    have := hk a (by simp); have := hk b (by simp); have := hk c (by simp); have := hk d (by simp); have := hk e (by simp); have := hk f (by simp)
    intro i hi
    match i, hi with
    | 0, _ => simp only [ar_, cd, hw]; simp [rw_]; omega
    | 1, _ => simp only [ar_, cd, hw]; simp [rw_]; omega
    | 2, _ => simp only [ar_, cd, hw]; simp [rw_]; omega
    | 3, _ => simp only [ar_, cd, hw]; simp [rw_]; omega
    | 4, _ => simp only [ar_, cd, hw]; simp [rw_]; omega
    | 5, _ => simp only [ar_, cd, hw]; simp [rw_]; omega
    | i + 6, hi => (exfalso; simp only [List.length_cons, List.length_nil] at hi; omega)
  | [a, b, c, d, e, f, g], _, hk =>
    have := hk a (by simp); have := hk b (by simp); have := hk c (by simp); have := hk d (by simp); have := hk e (by simp); have := hk f (by simp); have := hk g (by simp)
    intro i hi
    match i, hi with
    | 0, _ => simp only [ar_, cd, hw]; simp [rw_]; omega
    | 1, _ => simp only [ar_, cd, hw]; simp [rw_]; omega
    | 2, _ => simp only [ar_, cd, hw]; simp [rw_]; omega
    | 3, _ => simp only [ar_, cd, hw]; simp [rw_]; omega
    | 4, _ => simp only [ar_, cd, hw]; simp [rw_]; omega
    | 5, _ => simp only [ar_, cd, hw]; simp [rw_]; omega
    | 6, _ => simp only [ar_, cd, hw]; simp [rw_]; omega
    | i + 7, hi => (exfalso; simp only [List.length_cons, List.length_nil] at hi; omega)
  | a :: b :: c :: d :: e :: f :: g :: x :: y, hl, _ => simp only [List.length_cons] at hl; omega
theorem cd_inj {W : Int → Int} {P Q : List Int} (hP : ok5 P) (hQ : ok5 Q) (h : cd W P = cd W Q) : P = Q := by
  have h1 : P.length = Q.length := by
    have a := cd_l (W := W) hP
    have b := cd_l (W := W) hQ
    rw [h, b] at a
    omega
  refine List.ext_getElem h1 (fun i hi hj => ?_)
  have a := cd_a (W := W) hP i hi
  have b := cd_a (W := W) hQ i hj
  rw [h, b] at a
  simp [hi, hj] at a
  exact a.symm
/-- who is ahead: by weight, then length, then row -/
theorem cd_lt {W : Int → Int} {P Q : List Int} (hP : ok5 P) (hQ : ok5 Q) : cd W P < cd W Q ↔ (wp W P < wp W Q ∨ (wp W P = wp W Q ∧ (P.length < Q.length ∨ (P.length = Q.length ∧ rw_ P < rw_ Q)))) := by
  have p1 := rw_bd hP
  have q1 := rw_bd hQ
  have p2 := hP.1
  have q2 := hQ.1
  have key : P.length = Q.length → (rw_ P * 32 ^ (7 - P.length) < rw_ Q * 32 ^ (7 - Q.length) ↔ rw_ P < rw_ Q) := by
    intro e
    rw [e]
    exact Int.mul_lt_mul_right (Int.pow_pos (by omega))
  by_cases e : P.length = Q.length
  · have k := key e
    unfold cd
    generalize rw_ P * 32 ^ (7 - P.length) = x at *
    generalize rw_ Q * 32 ^ (7 - Q.length) = y at *
    constructor
    · intro h
      by_cases c : wp W P < wp W Q
      · exact Or.inl c
      · exact Or.inr ⟨by omega, Or.inr ⟨e, k.mp (by omega)⟩⟩
    · rintro (h | ⟨h1, h | ⟨-, h⟩⟩)
      · omega
      · omega
      · have := k.mpr h; omega
  · unfold cd
    omega
end
section
/-! a heap in an array: the least number first -/
def hp (P : Int → Int) (n : Nat) : Prop := ∀ i : Int, 0 < i → i < n → P ((i - 1) / 2) ≤ P i
theorem hp_min {P : Int → Int} {n : Nat} (h : hp P n) : ∀ (k : Nat) (i : Int), i.toNat ≤ k → 0 ≤ i → i < n → P 0 ≤ P i := by
  intro k
  induction k with
  | zero =>
    intro i hk h0 _
    have : i = 0 := by omega
    rw [this]
    exact Int.le_refl _
  | succ k ih =>
    intro i hk h0 hn
    by_cases e : i = 0
    · rw [e]; exact Int.le_refl _
    · have h1 := h i (by omega) hn
      have h2 := ih ((i - 1) / 2) (by omega) (by omega) (by omega)
      omega
/-- rising: the hole is at q, x is to come there; all is in order but at q -/
def hu (P : Int → Int) (x q : Int) (n : Nat) : Prop :=
  0 ≤ q ∧ q < n ∧ (∀ i : Int, 0 < i → i < n → i ≠ q → up_ P q x ((i - 1) / 2) ≤ up_ P q x i) ∧ (0 < q → ∀ i : Int, 0 < i → i < n → (i - 1) / 2 = q → P ((q - 1) / 2) ≤ P i)
theorem hu_0 {P : Int → Int} {n : Nat} (h : hp P n) (x : Int) : hu P x n (n + 1) := by
  refine ⟨by omega, by omega, fun i h0 hn hq => ?_, fun _ i h0 hn hq => by omega⟩
  rw [up_n (by omega), up_n hq]
  exact h i h0 (by omega)
theorem hu_end {P : Int → Int} {x q : Int} {n : Nat} (h : hu P x q n) (hc : q = 0 ∨ P ((q - 1) / 2) ≤ x) : hp (up_ P q x) n := by
  obtain ⟨h0, h1, h2, -⟩ := h
  intro i hi hn
  by_cases e : i = q
  · subst e
    rcases hc with hc | hc
    · omega
    · rw [up_s, up_n (by omega)]
      exact hc
  · exact h2 i hi hn e
theorem hu_step {P : Int → Int} {x q : Int} {n : Nat} (h : hu P x q n) (h0 : 0 < q) (hc : x < P ((q - 1) / 2)) : hu (up_ P q (P ((q - 1) / 2))) x ((q - 1) / 2) n := by
  obtain ⟨a0, a1, a2, a3⟩ := h
  refine ⟨by omega, by omega, fun i hi hn hq => ?_, fun hp0 i hi hn hq => ?_⟩
  · rw [up_n (j := i) hq]
    by_cases e : i = q
    · subst e
      rw [up_s, up_s]
      omega
    · rw [up_n e]
      by_cases e2 : (i - 1) / 2 = (q - 1) / 2
      · rw [e2, up_s]
        have := a2 i hi hn e
        rw [e2, up_n (by omega), up_n e] at this
        omega
      · rw [up_n e2]
        by_cases e3 : (i - 1) / 2 = q
        · rw [e3, up_s]
          exact a3 h0 i hi hn e3
        · rw [up_n e3]
          have := a2 i hi hn e
          rw [up_n e3, up_n e] at this
          exact this
  · have k1 := a2 ((q - 1) / 2) (by omega) (by omega) (by omega)
    rw [up_n (by omega), up_n (by omega)] at k1
    rw [up_n (j := ((q - 1) / 2 - 1) / 2) (by omega)]
    by_cases e : i = q
    · subst e
      rw [up_s]
      exact k1
    · rw [up_n e]
      have k2 := a2 i hi hn e
      rw [hq, up_n (by omega), up_n e] at k2
      omega
/-- the numbers stay the same when the hole moves -/
theorem hl_move {P : Int → Int} {x q r : Int} {n : Nat} (h0 : 0 ≤ q) (h1 : q < n) (r0 : 0 ≤ r) (r1 : r < n) (hne : q ≠ r) (v : Int) : ct (up_ (up_ P q (P r)) r x) v n = ct (up_ P q x) v n := by
  rw [ct_up v r0 n r1, ct_up v h0 n h1, ct_up v h0 n h1, up_n (fun e => hne e.symm)]
  omega
/-- sinking: the hole is at q, x is to come there; all is in order but below q -/
def hd (P : Int → Int) (x q : Int) (n : Nat) : Prop :=
  0 ≤ q ∧ (∀ i : Int, 0 < i → i < n → (i - 1) / 2 ≠ q → up_ P q x ((i - 1) / 2) ≤ up_ P q x i) ∧ (0 < q → ∀ i : Int, 0 < i → i < n → (i - 1) / 2 = q → P ((q - 1) / 2) ≤ P i)
theorem hd_0 {P : Int → Int} {n : Nat} (h : hp P (n + 1)) (x : Int) : hd P x 0 n := by
  refine ⟨by omega, fun i h0 hn hq => ?_, fun q => by omega⟩
  rw [up_n (by omega), up_n (by omega)]
  exact h i h0 (by omega)
/-- c is the lesser child of q, if there is one -/
def lc (P : Int → Int) (q c : Int) (n : Nat) : Prop := (c = 2 * q + 1 ∨ c = 2 * q + 2) ∧ (c < n → ∀ i : Int, 0 < i → i < n → (i - 1) / 2 = q → P c ≤ P i) ∧ (¬ c < n → ∀ i : Int, 0 < i → i < n → (i - 1) / 2 ≠ q)
theorem hd_end {P : Int → Int} {x q c : Int} {n : Nat} (h : hd P x q n) (hl : lc P q c n) (hc : (n : Int) ≤ c ∨ x ≤ P c) : hp (up_ P q x) n := by
  obtain ⟨h0, h1, h2⟩ := h
  obtain ⟨l0, l1, l2⟩ := hl
  intro i hi hn
  by_cases e : (i - 1) / 2 = q
  · by_cases cn : c < n
    · have := l1 cn i hi hn e
      rw [e, up_s, up_n (by omega)]
      rcases hc with hc | hc <;> omega
    · exact absurd e (l2 cn i hi hn)
  · exact h1 i hi hn e
theorem hd_step {P : Int → Int} {x q c : Int} {n : Nat} (h : hd P x q n) (hl : lc P q c n) (hcn : c < n) (hc : P c < x) : hd (up_ P q (P c)) x c n := by
  obtain ⟨h0, h1, h2⟩ := h
  obtain ⟨l0, l1, l2⟩ := hl
  refine ⟨by omega, fun i hi hn hq => ?_, fun hp0 i hi hn hq => ?_⟩
  · rw [up_n (j := (i - 1) / 2) hq]
    by_cases e : i = c
    · subst e
      have e2 : (i - 1) / 2 = q := by omega
      rw [e2, up_s, up_s]
      omega
    · rw [up_n (j := i) e]
      by_cases e2 : (i - 1) / 2 = q
      · rw [e2, up_s, up_n (by omega)]
        exact l1 hcn i hi hn e2
      · rw [up_n e2]
        by_cases e3 : i = q
        · subst e3
          rw [up_s]
          have := h2 (by omega) c (by omega) hcn (by omega)
          exact this
        · rw [up_n e3]
          have := h1 i hi hn e2
          rw [up_n e2, up_n e3] at this
          exact this
  · have e : (c - 1) / 2 = q := by omega
    rw [e, up_s, up_n (by omega)]
    have := h1 i hi hn (by omega)
    rw [hq, up_n (by omega), up_n (by omega)] at this
    exact this
/-! what comes out of a heap is what a sorted list has -/
theorem hp_first {P : Int → Int} {n : Nat} {a : Int} {l : List Int} (h : hp P n) (hs : (a :: l).Pairwise (fun x y => x ≤ y)) (hc : ∀ v, ct P v n = ((a :: l).count v : Nat)) (hn : 0 < n) : P 0 = a := by
  have h1 : P 0 ∈ a :: l := by
    have := ct_in (f := P) (n := n) (i := 0) (by omega) (by omega)
    rw [hc] at this
    exact List.count_pos_iff.mp (by omega)
  have h2 : a ≤ P 0 := by
    rcases List.mem_cons.mp h1 with e | e
    · omega
    · exact (List.pairwise_cons.mp hs).1 _ e
  have h3 : 0 < ct P a n := by
    rw [hc]
    have : 0 < (a :: l).count a := List.count_pos_iff.mpr (by simp)
    omega
  obtain ⟨j, j0, j1, j2⟩ := ct_pos h3
  have := hp_min h j.toNat j (Nat.le_refl _) j0 j1
  omega
theorem hp_rest {P : Int → Int} {n : Nat} {l : List Int} (hc : ∀ v, ct P v (n + 1) = ((P 0 :: l).count v : Nat)) (hn : 0 < n) (v : Int) : ct (up_ P 0 (P n)) v n = (l.count v : Nat) := by
  rw [ct_up v (by omega) n (by omega)]
  have h1 := hc v
  rw [ct_s] at h1
  rw [List.count_cons] at h1
  simp only [beq_iff_eq] at h1
  split at h1 <;> split at h1 <;> (rename_i c1 c2; simp [c1, c2]; omega)
end
section
/-! the least ways out of a source over edges with room: what the rounds keep -/
def far : Int := 1000000
/-- edge e can't make a way shorter -/
def sa (et eh ec er d : Int → Int) (e : Int) : Prop := er e ≤ 0 ∨ d (et e) = far ∨ d (eh e) ≤ d (et e) + ec e
/-- what is fixed of the edges: E of them, places below 16; p is a price of each place that no edge with room undercuts -/
def ed (E : Nat) (et eh ec er : Int → Int) (p : Int → Int) : Prop := E ≤ 56 ∧ (∀ e : Int, 0 ≤ e → e < E → 0 ≤ et e ∧ et e < 16 ∧ 0 ≤ eh e ∧ eh e < 16 ∧ et e ≠ eh e ∧ -1000 ≤ ec e ∧ ec e ≤ 1000) ∧ (∀ e : Int, 0 ≤ e → e < E → 0 < er e → p (eh e) ≤ ec e + p (et e))
def upw (w : Int → List Int) (i : Int) (l : List Int) : Int → List Int := fun j => if j = i then l else w j
theorem upw_s {w : Int → List Int} {i : Int} {l : List Int} : upw w i l i = l := by simp [upw]
theorem upw_n {w : Int → List Int} {i j : Int} {l : List Int} (h : j ≠ i) : upw w i l j = w j := by simp [upw, h]
/-- of each place that has been come to: wk is a way to it -/
def bw (s : Int) (p d : Int → Int) (wk : Int → List Int) : Prop := ∀ v : Int, 0 ≤ v → v < 16 → d v ≠ far →
  (wk v).Nodup ∧ s ∈ wk v ∧ ∀ x, x ∈ wk v → 0 ≤ x ∧ x < 16 ∧ d x ≠ far ∧ d x + p v - p x ≤ d v
/-- its last edge -/
def bl (E : Nat) (et eh ec er : Int → Int) (s : Int) (d le : Int → Int) (wk : Int → List Int) : Prop := ∀ v : Int, 0 ≤ v → v < 16 → v ≠ s → d v ≠ far →
  0 ≤ le v ∧ le v < E ∧ 0 < er (le v) ∧ eh (le v) = v ∧ d (et (le v)) ≠ far ∧ d (et (le v)) + ec (le v) ≤ d v ∧ (d v = d (et (le v)) + ec (le v) → wk v = v :: wk (et (le v)))
/-- how far the rounds are: in round r, before edge i -/
def br (E : Nat) (et eh ec er d : Int → Int) (wk : Int → List Int) (r : Nat) (i : Int) : Prop := ∀ e : Int, 0 ≤ e → e < E →
  sa et eh ec er d e ∨ (if e < i then r + 1 else r) ≤ (wk (et e)).length
def bd_ (d : Int → Int) (t : Int) : Prop := ∀ v : Int, 0 ≤ v → v < 16 → d v = far ∨ (-1000 * t ≤ d v ∧ d v ≤ 1000 * t)
def BF (E : Nat) (et eh ec er : Int → Int) (s : Int) (p d le : Int → Int) (wk : Int → List Int) (r : Nat) (i t : Int) : Prop :=
  0 ≤ t ∧ 0 ≤ s ∧ s < 16 ∧ d s = 0 ∧ wk s = [s] ∧ bd_ d t ∧ bw s p d wk ∧ bl E et eh ec er s d le wk ∧ br E et eh ec er d wk r i
theorem BF_0 {E : Nat} {et eh ec er : Int → Int} {s : Int} {p d le : Int → Int} (h0 : 0 ≤ s) (h1 : s < 16) (hd : ∀ v : Int, 0 ≤ v → v < 16 → d v = if v = s then 0 else far) : BF E et eh ec er s p d le (fun v => [v]) 1 0 0 := by
  have hs : d s = 0 := by rw [hd s h0 h1, if_pos rfl]
  have hn : ∀ v : Int, 0 ≤ v → v < 16 → d v ≠ far → v = s := by
    intro v a b c
    refine Classical.byContradiction (fun q => c ?_)
    rw [hd v a b, if_neg q]
  refine ⟨by omega, h0, h1, hs, rfl, fun v a b => ?_, fun v a b c => ?_, fun v a b c q => absurd (hn v a b q) c, fun e a b => ?_⟩
  · rw [hd v a b]
    split
    · right; omega
    · left; rfl
  · obtain rfl := hn v a b c
    refine ⟨by simp, by simp, fun x hx => ?_⟩
    have : x = v := by simpa using hx
    subst this
    exact ⟨a, b, c, by omega⟩
  · right
    have : ¬ e < 0 := by omega
    simp [this]
/-- an edge that makes nothing shorter -/
theorem BF_keep {E : Nat} {et eh ec er : Int → Int} {s : Int} {p d le : Int → Int} {wk : Int → List Int} {r : Nat} {i t : Int} (h : BF E et eh ec er s p d le wk r i t) (hs : sa et eh ec er d i) : BF E et eh ec er s p d le wk r (i + 1) (t + 1) := by
  obtain ⟨a0, a1, a2, a3, a4, a5, a6, a7, a8⟩ := h
  refine ⟨by omega, a1, a2, a3, a4, fun v x y => ?_, a6, a7, fun e x y => ?_⟩
  · rcases a5 v x y with z | z
    · exact Or.inl z
    · right; omega
  · by_cases c : e = i
    · subst c; exact Or.inl hs
    · rcases a8 e x y with z | z
      · exact Or.inl z
      · right
        by_cases c1 : e < i
        · rw [if_pos c1] at z
          rw [if_pos (by omega)]
          exact z
        · rw [if_neg c1] at z
          rw [if_neg (by omega)]
          exact z
/-- an edge that does -/
theorem BF_step {E : Nat} {et eh ec er : Int → Int} {s : Int} {p d le : Int → Int} {wk : Int → List Int} {r : Nat} {i t : Int} (hE : ed E et eh ec er p) (h : BF E et eh ec er s p d le wk r i t) (i0 : 0 ≤ i) (i1 : i < E) (ht : t < 900) (hs : ¬ sa et eh ec er d i) :
    BF E et eh ec er s p (up_ d (eh i) (d (et i) + ec i)) (up_ le (eh i) i) (upw wk (eh i) (eh i :: wk (et i))) r (i + 1) (t + 1) := by
  obtain ⟨-, e1, e2⟩ := hE
  obtain ⟨a0, a1, a2, a3, a4, a5, a6, a7, a8⟩ := h
  obtain ⟨u0, u1, v0, v1, uv, c0, c1⟩ := e1 i i0 i1
  have n1 : 0 < er i := by
    refine Classical.byContradiction (fun q => hs (Or.inl (by omega)))
  have n2 : d (et i) ≠ far := fun q => hs (Or.inr (Or.inl q))
  have n3 : d (et i) + ec i < d (eh i) := by
    refine Classical.byContradiction (fun q => hs (Or.inr (Or.inr (by omega))))
  have hp := e2 i i0 i1 n1
  have hr8 := a8 i i0 i1
  rw [if_neg (by omega)] at hr8
  have hr : r ≤ (wk (et i)).length := hr8.resolve_left hs
  generalize hu : et i = u at *
  generalize hv : eh i = v at *
  generalize hc : ec i = c at *
  obtain ⟨w1, w2, w3⟩ := a6 u u0 u1 n2
  have hdu : -1000 * t ≤ d u ∧ d u ≤ 1000 * t := (a5 u u0 u1).resolve_left n2
  have hnew : d u + c ≠ far := by unfold far; omega
  have hvs : v ≠ s := by
    intro q
    have := w3 s w2
    rw [q, a3] at n3
    rw [q] at hp
    rw [a3] at this
    omega
  have hvw : v ∉ wk u := by
    intro q
    have := w3 v q
    omega
  have hlt : ∀ x, up_ d v (d u + c) x ≤ d x := by
    intro x
    by_cases q : x = v
    · subst q; rw [up_s]; omega
    · rw [up_n q]; exact Int.le_refl _
  have hfar : ∀ x, d x ≠ far → up_ d v (d u + c) x ≠ far := by
    intro x hx
    by_cases q : x = v
    · subst q; rw [up_s]; exact hnew
    · rw [up_n q]; exact hx
  refine ⟨by omega, a1, a2, by rw [up_n (fun q => hvs q.symm)]; exact a3, by rw [upw_n (fun q => hvs q.symm)]; exact a4, fun x x0 x1 => ?_, fun x x0 x1 hx => ?_, fun x x0 x1 xs hx => ?_, fun e x0 x1 => ?_⟩
  · by_cases q : x = v
    · subst q; rw [up_s]; right; omega
    · rw [up_n q]
      rcases a5 x x0 x1 with z | z
      · exact Or.inl z
      · right; omega
  · by_cases q : x = v
    · subst q
      rw [upw_s, up_s]
      refine ⟨List.nodup_cons.mpr ⟨hvw, w1⟩, List.mem_cons_of_mem _ w2, fun y hy => ?_⟩
      rcases List.mem_cons.mp hy with rfl | hy
      · rw [up_s]
        exact ⟨x0, x1, hnew, by omega⟩
      · have hyv : y ≠ x := fun z => hvw (z ▸ hy)
        obtain ⟨y0, y1, y2, y3⟩ := w3 y hy
        rw [up_n hyv]
        exact ⟨y0, y1, y2, by omega⟩
    · rw [up_n q] at hx ⊢
      rw [upw_n q]
      obtain ⟨z1, z2, z3⟩ := a6 x x0 x1 hx
      refine ⟨z1, z2, fun y hy => ?_⟩
      obtain ⟨y0, y1, y2, y3⟩ := z3 y hy
      have := hlt y
      exact ⟨y0, y1, hfar y y2, by omega⟩
  · by_cases q : x = v
    · subst q
      rw [up_s, up_s, upw_s]
      rw [hu, hv, hc]
      have huv : u ≠ x := uv
      rw [up_n huv, upw_n huv]
      exact ⟨i0, i1, n1, rfl, n2, Int.le_refl _, fun _ => rfl⟩
    · rw [up_n q] at hx ⊢
      rw [up_n q, upw_n q]
      obtain ⟨z1, z2, z3, z4, z5, z6, z7⟩ := a7 x x0 x1 xs hx
      by_cases q2 : et (le x) = v
      · rw [q2] at z5 z6 ⊢
        rw [up_s]
        exact ⟨z1, z2, z3, z4, hnew, by omega, fun z => by omega⟩
      · rw [up_n q2, upw_n q2]
        exact ⟨z1, z2, z3, z4, z5, z6, z7⟩
  · by_cases q : et e = v
    · right
      rw [q, upw_s, List.length_cons]
      split <;> omega
    · rw [upw_n q]
      by_cases q2 : e = i
      · subst q2
        left
        right; right
        rw [hu, hv, hc, up_s, up_n uv]
        exact Int.le_refl _
      · rcases a8 e x0 x1 with z | z
        · left
          rcases z with z | z | z
          · exact Or.inl z
          · right; left; rw [up_n q]; exact z
          · right; right
            rw [up_n q]
            have := hlt (eh e)
            omega
        · right
          by_cases c1 : e < i
          · rw [if_pos c1] at z
            rw [if_pos (by omega)]
            exact z
          · rw [if_neg c1] at z
            rw [if_neg (by omega)]
            exact z
theorem BF_round {E : Nat} {et eh ec er : Int → Int} {s : Int} {p d le : Int → Int} {wk : Int → List Int} {r : Nat} {t : Int} (h : BF E et eh ec er s p d le wk r E t) : BF E et eh ec er s p d le wk (r + 1) 0 t := by
  obtain ⟨a0, a1, a2, a3, a4, a5, a6, a7, a8⟩ := h
  refine ⟨a0, a1, a2, a3, a4, a5, a6, a7, fun e x y => ?_⟩
  rcases a8 e x y with z | z
  · exact Or.inl z
  · rw [if_pos y] at z
    rw [if_neg (by omega)]
    exact Or.inr z
/-- a way has 16 places at most -/
theorem BF_len {E : Nat} {et eh ec er : Int → Int} {s : Int} {p d le : Int → Int} {wk : Int → List Int} {r : Nat} {i t : Int} (h : BF E et eh ec er s p d le wk r i t) {v : Int} (v0 : 0 ≤ v) (v1 : v < 16) (hv : d v ≠ far) : (wk v).length ≤ 16 := by
  obtain ⟨a0, a1, a2, a3, a4, a5, a6, a7, a8⟩ := h
  obtain ⟨z1, z2, z3⟩ := a6 v v0 v1 hv
  have := z1.length_le_of_subset (l₂ := dk 16) (fun x hx => dk_mem.mpr ⟨(z3 x hx).1, (z3 x hx).2.1⟩)
  rw [dk_len] at this
  exact this
/-- after 16 rounds nothing can be made shorter -/
theorem BF_16 {E : Nat} {et eh ec er : Int → Int} {s : Int} {p d le : Int → Int} {wk : Int → List Int} {i t : Int} (hE : ed E et eh ec er p) (h : BF E et eh ec er s p d le wk 17 i t) : ∀ e : Int, 0 ≤ e → e < E → sa et eh ec er d e := by
  intro e e0 e1
  by_cases q : d (et e) = far
  · exact Or.inr (Or.inl q)
  · obtain ⟨x0, x1, -⟩ := hE.2.1 e e0 e1
    have hl := BF_len h x0 x1 q
    obtain ⟨a0, a1, a2, a3, a4, a5, a6, a7, a8⟩ := h
    rcases a8 e e0 e1 with z | z
    · exact z
    · split at z <;> omega
end
section
/-! edges in pairs: 2 j and its way back 2 j + 1, whose room is what flows; one path more -/
def pt (e : Int) : Int := if e % 2 = 0 then e + 1 else e - 1
def pa (M : Nat) (et eh ec : Int → Int) : Prop := ∀ j : Int, 0 ≤ j → j < M → et (2 * j + 1) = eh (2 * j) ∧ eh (2 * j + 1) = et (2 * j) ∧ ec (2 * j + 1) = - ec (2 * j)
theorem pt_in {M : Nat} {e : Int} (h0 : 0 ≤ e) (h1 : e < (2 * M : Nat)) : 0 ≤ pt e ∧ pt e < (2 * M : Nat) ∧ pt e ≠ e ∧ pt (pt e) = e := by
  unfold pt
  by_cases c : e % 2 = 0
  · rw [if_pos c, if_neg (by omega)]; omega
  · rw [if_neg c, if_pos (by omega)]; omega
theorem pa_pt {M : Nat} {et eh ec : Int → Int} (h : pa M et eh ec) {e : Int} (h0 : 0 ≤ e) (h1 : e < (2 * M : Nat)) : et (pt e) = eh e ∧ eh (pt e) = et e ∧ ec (pt e) = - ec e := by
  unfold pt
  obtain ⟨a, b, c⟩ := h (e / 2) (by omega) (by omega)
  by_cases q : e % 2 = 0
  · have e1 : 2 * (e / 2) = e := by omega
    rw [e1] at a b c
    rw [if_pos q]
    exact ⟨a, b, c⟩
  · have e1 : 2 * (e / 2) = e - 1 := by omega
    have e2 : 2 * (e / 2) + 1 = e := by omega
    rw [e2, e1] at a b c
    rw [if_neg q]
    exact ⟨b.symm, a.symm, by omega⟩
/-- what flows, each pair weighed by g -/
def gs (M : Nat) (er g : Int → Int) : Int := sm (fun j => er (2 * j + 1) * g (2 * j)) M
def ps (er : Int → Int) (e : Int) : Int → Int := up_ (up_ er e (er e - 1)) (pt e) (er (pt e) + 1)
theorem ps_e {er : Int → Int} {e : Int} (h : pt e ≠ e) : ps er e e = er e - 1 := by
  unfold ps
  rw [up_n (fun q => h q.symm), up_s]
theorem ps_p {er : Int → Int} {e : Int} : ps er e (pt e) = er (pt e) + 1 := by
  unfold ps
  rw [up_s]
theorem ps_o {er : Int → Int} {e x : Int} (h1 : x ≠ e) (h2 : x ≠ pt e) : ps er e x = er x := by
  unfold ps
  rw [up_n h2, up_n h1]
theorem gs_push {M : Nat} {er g : Int → Int} {e : Int} (h0 : 0 ≤ e) (h1 : e < (2 * M : Nat)) (hg : ∀ j : Int, 0 ≤ j → j < M → g (2 * j + 1) = - g (2 * j)) : gs M (ps er e) g = gs M er g + g e := by
  obtain ⟨p0, p1, p2, p3⟩ := pt_in h0 h1
  have hj0 : 0 ≤ e / 2 := by omega
  have hj1 : e / 2 < (M : Int) := by omega
  unfold gs
  rw [sm_one (f := fun j => er (2 * j + 1) * g (2 * j)) (i := e / 2) hj0 M hj1 (fun j _ _ hj => by
    show ps er e (2 * j + 1) * g (2 * j) = er (2 * j + 1) * g (2 * j)
    rw [ps_o (by omega) (by unfold pt; split <;> omega)])]
  by_cases q : e % 2 = 0
  · have e1 : 2 * (e / 2) = e := by omega
    have e2 : 2 * (e / 2) + 1 = pt e := by unfold pt; rw [if_pos q]; omega
    have e3 : e + 1 = pt e := by unfold pt; rw [if_pos q]
    simp only [e1, e3]
    rw [ps_p, Int.add_mul]
    omega
  · have e2 : 2 * (e / 2) + 1 = e := by omega
    have hge := hg (e / 2) hj0 hj1
    rw [e2] at hge
    simp only [e2]
    rw [ps_e p2, Int.sub_mul]
    omega
/-- what is kept while the path's edges are taken, from the goal back to q -/
def AU (M : Nat) (et eh ec er0 er d le : Int → Int) (wk : Int → List Int) (s g q : Int) : Prop :=
  0 ≤ q ∧ q < 16 ∧ d q ≠ far ∧ (∀ p : Int → Int, gs M er (fun e => p (et e) - p (eh e)) = gs M er0 (fun e => p (et e) - p (eh e)) + (p q - p g)) ∧ gs M er ec = gs M er0 ec + (d g - d q) ∧
  (∀ e : Int, 0 ≤ e → e < (2 * M : Nat) → 0 ≤ er e) ∧ (∀ j : Int, 0 ≤ j → j < M → er (2 * j) + er (2 * j + 1) = er0 (2 * j) + er0 (2 * j + 1)) ∧
  (∀ e : Int, 0 ≤ e → e < (2 * M : Nat) → 0 < er e → 0 < er0 e ∨ (d (et e) ≠ far ∧ d (eh e) ≠ far ∧ d (eh e) = d (et e) + ec e)) ∧ (∀ x, x ∈ wk q → x ≠ s → er (le x) = er0 (le x))
theorem AU_0 {M : Nat} {et eh ec er d le : Int → Int} {wk : Int → List Int} {s g : Int} (g0 : 0 ≤ g) (g1 : g < 16) (hg : d g ≠ far) (hr : ∀ e : Int, 0 ≤ e → e < (2 * M : Nat) → 0 ≤ er e) : AU M et eh ec er er d le wk s g g :=
  ⟨g0, g1, hg, fun p => by omega, by omega, hr, fun _ _ _ => rfl, fun _ _ _ h => Or.inl h, fun _ _ _ => rfl⟩
/-- each last edge is as long as it must be -/
theorem BF_tight {E : Nat} {et eh ec er : Int → Int} {s : Int} {p d le : Int → Int} {wk : Int → List Int} {r : Nat} {i t : Int} (h : BF E et eh ec er s p d le wk r i t) (hs : ∀ e : Int, 0 ≤ e → e < E → sa et eh ec er d e) {v : Int} (v0 : 0 ≤ v) (v1 : v < 16) (vs : v ≠ s) (hv : d v ≠ far) :
    0 ≤ le v ∧ le v < E ∧ 0 < er (le v) ∧ eh (le v) = v ∧ d (et (le v)) ≠ far ∧ d v = d (et (le v)) + ec (le v) ∧ wk v = v :: wk (et (le v)) := by
  obtain ⟨a0, a1, a2, a3, a4, a5, a6, a7, a8⟩ := h
  obtain ⟨z1, z2, z3, z4, z5, z6, z7⟩ := a7 v v0 v1 vs hv
  have : d v = d (et (le v)) + ec (le v) := by
    rcases hs (le v) z1 z2 with q | q | q
    · omega
    · exact absurd q z5
    · rw [z4] at q; omega
  exact ⟨z1, z2, z3, z4, z5, this, z7 this⟩
theorem AU_step {M : Nat} {et eh ec er0 er : Int → Int} {s g q : Int} {p d le : Int → Int} {wk : Int → List Int} {r : Nat} {i t : Int} (hE : ed (2 * M) et eh ec er0 p) (hM : pa M et eh ec) (h : BF (2 * M) et eh ec er0 s p d le wk r i t) (hs : ∀ e : Int, 0 ≤ e → e < (2 * M : Nat) → sa et eh ec er0 d e)
    (hA : AU M et eh ec er0 er d le wk s g q) (hq : q ≠ s) : AU M et eh ec er0 (ps er (le q)) d le wk s g (et (le q)) ∧ (wk q).length = (wk (et (le q))).length + 1 ∧ 0 ≤ le q ∧ le q < (2 * M : Nat) := by
  obtain ⟨b0, b1, b2, b3, b4, b5, b6, b7, b8⟩ := hA
  obtain ⟨z1, z2, z3, z4, z5, z6, z7⟩ := BF_tight h hs b0 b1 hq b2
  obtain ⟨-, e1, -⟩ := hE
  obtain ⟨t0, t1, -⟩ := e1 (le q) z1 z2
  obtain ⟨p0, p1, p2, p3⟩ := pt_in z1 z2
  obtain ⟨m1, m2, m3⟩ := pa_pt hM z1 z2
  have hqw : q ∈ wk q := by rw [z7]; exact List.mem_cons_self
  have hrm : er (le q) = er0 (le q) := b8 q hqw hq
  have hw := (h.2.2.2.2.2.2.1 q b0 b1 b2).1
  rw [z7] at hw
  have hqn := (List.nodup_cons.mp hw).1
  refine ⟨⟨t0, t1, z5, fun f => ?_, ?_, fun e x0 x1 => ?_, fun j x0 x1 => ?_, fun e x0 x1 hx => ?_, fun x hx hxs => ?_⟩, by rw [z7, List.length_cons], z1, z2⟩
  · rw [gs_push z1 z2 (fun j j0 j1 => by
      obtain ⟨y1, y2, -⟩ := hM j j0 j1
      show f (et (2 * j + 1)) - f (eh (2 * j + 1)) = - (f (et (2 * j)) - f (eh (2 * j)))
      rw [y1, y2]; omega), b3 f, z4]
    omega
  · rw [gs_push z1 z2 (fun j j0 j1 => (hM j j0 j1).2.2), b4]
    omega
  · by_cases c1 : e = le q
    · subst c1; rw [ps_e p2]; omega
    · by_cases c2 : e = pt (le q)
      · subst c2; rw [ps_p]; have := b5 _ p0 p1; omega
      · rw [ps_o c1 c2]; exact b5 e x0 x1
  · rw [← b6 j x0 x1]
    by_cases c1 : 2 * j = le q
    · have c2 : 2 * j + 1 = pt (le q) := by unfold pt; rw [if_pos (by omega)]; omega
      rw [c1] at c2 ⊢
      rw [c2, ps_e p2, ps_p]; omega
    · by_cases c2 : 2 * j + 1 = le q
      · have c3 : 2 * j = pt (le q) := by unfold pt; rw [if_neg (by omega)]; omega
        rw [c2, c3, ps_e p2, ps_p]; omega
      · have c3 : 2 * j ≠ pt (le q) := by unfold pt; split <;> omega
        have c4 : 2 * j + 1 ≠ pt (le q) := by unfold pt; split <;> omega
        rw [ps_o c1 c3, ps_o c2 c4]
  · by_cases c2 : e = pt (le q)
    · subst c2
      right
      rw [m1, m2, m3, z4]
      exact ⟨b2, z5, by omega⟩
    · by_cases c1 : e = le q
      · subst c1
        left
        rw [ps_e p2] at hx
        omega
      · rw [ps_o c1 c2] at hx
        exact b7 e x0 x1 hx
  · have hx2 : x ∈ wk q := by rw [z7]; exact List.mem_cons_of_mem _ hx
    have hxq : x ≠ q := fun c => hqn (c ▸ hx)
    obtain ⟨x0, x1, x2, -⟩ := (h.2.2.2.2.2.2.1 q b0 b1 b2).2.2 x hx2
    obtain ⟨y1, y2, y3, y4, y5, y6, y7⟩ := BF_tight h hs x0 x1 hxs x2
    rw [ps_o, b8 x hx2 hxs]
    · intro c; rw [c, z4] at y4; exact hxq y4.symm
    · intro c
      have k1 : x = et (le q) := by rw [← y4, c, m2]
      have k2 : et (le x) = q := by rw [c, m1, z4]
      rw [k2] at y7
      rw [← k1] at z7
      have l1 := congrArg List.length y7
      have l2 := congrArg List.length z7
      simp only [List.length_cons] at l1 l2
      omega
/-- prices after one path more -/
theorem AU_end {M : Nat} {et eh ec er0 er : Int → Int} {s g : Int} {p d le : Int → Int} {wk : Int → List Int} {r : Nat} {i t : Int} (hE : ed (2 * M) et eh ec er0 p) (ht : t ≤ 900) (h : BF (2 * M) et eh ec er0 s p d le wk r i t) (hs : ∀ e : Int, 0 ≤ e → e < (2 * M : Nat) → sa et eh ec er0 d e)
    (hA : AU M et eh ec er0 er d le wk s g s) : ∃ p' : Int → Int, ed (2 * M) et eh ec er p' := by
  obtain ⟨b0, b1, b2, b3, b4, b5, b6, b7, b8⟩ := hA
  obtain ⟨e0, e1, e2⟩ := hE
  obtain ⟨a0, a1, a2, a3, a4, a5, a6, a7, a8⟩ := h
  refine ⟨fun v => if d v = far then p v + (3000000 + sm (fun v => ((p v).natAbs : Int)) 16) else d v, e0, e1, fun e x0 x1 hx => ?_⟩
  obtain ⟨u0, u1, v0, v1, uv, c0, c1⟩ := e1 e x0 x1
  have hab := sm_part (f := fun v => ((p v).natAbs : Int)) 16 (fun j _ _ => by omega) u0 u1
  have hab : ((p (et e)).natAbs : Int) ≤ sm (fun v => ((p v).natAbs : Int)) 16 := hab
  show (if d (eh e) = far then p (eh e) + (3000000 + sm (fun v => ((p v).natAbs : Int)) 16) else d (eh e)) ≤ ec e + (if d (et e) = far then p (et e) + (3000000 + sm (fun v => ((p v).natAbs : Int)) 16) else d (et e))
  rcases b7 e x0 x1 hx with q | ⟨q1, q2, q3⟩
  · have hp := e2 e x0 x1 q
    by_cases c : d (et e) = far
    · rw [if_pos c]
      by_cases c2 : d (eh e) = far
      · rw [if_pos c2]; omega
      · rw [if_neg c2]
        have := (a5 (eh e) v0 v1).resolve_left c2
        omega
    · have hb := (a5 (et e) u0 u1).resolve_left c
      have hsat : d (eh e) ≤ d (et e) + ec e := by
        rcases hs e x0 x1 with z | z | z
        · omega
        · exact absurd z c
        · exact z
      have c2 : d (eh e) ≠ far := by unfold far; omega
      rw [if_neg c, if_neg c2]
      omega
  · rw [if_neg q1, if_neg q2]; omega
end
section
/-! flows on a graph: x k on arc k, y v through node v; kappa of it from a to b. What a flow keeps, said by any price q of places -/
def GF (n N : Nat) (F T x y : Int → Int) (a b kp : Int) : Prop := ∀ q : Int → Int, sm (fun k => x k * (q (2 * F k + 1) - q (2 * T k))) n + sm (fun v => y v * (q (2 * v) - q (2 * v + 1))) N = kp * (q (2 * a + 1) - q (2 * b))
def bn (n : Nat) (x u : Int → Int) : Prop := ∀ k : Int, 0 ≤ k → k < n → 0 ≤ x k ∧ x k ≤ u k
/-- a price that no part of the flow undercuts -/
def PO (n N : Nat) (F T W x y u z p : Int → Int) : Prop :=
  (∀ k : Int, 0 ≤ k → k < n → (x k < u k → 0 ≤ W k + (p (2 * F k + 1) - p (2 * T k))) ∧ (0 < x k → W k + (p (2 * F k + 1) - p (2 * T k)) ≤ 0)) ∧
  (∀ v : Int, 0 ≤ v → v < N → (y v < z v → 0 ≤ p (2 * v) - p (2 * v + 1)) ∧ (0 < y v → p (2 * v) - p (2 * v + 1) ≤ 0))
theorem mul_up {x x' u c : Int} (h1 : x' ≤ u) (h0 : 0 ≤ x') (hu : x < u → 0 ≤ c) (hd : 0 < x → c ≤ 0) : x * c ≤ x' * c := by
  by_cases e : x < x'
  · exact Int.mul_le_mul_of_nonneg_right (by omega) (hu (by omega))
  · by_cases e2 : x = x'
    · rw [e2]; exact Int.le_refl _
    · have := hd (by omega)
      exact Int.mul_le_mul_of_nonpos_right (by omega) this
theorem gf_opt {n N : Nat} {F T W x y x' y' u z p : Int → Int} {a b kp : Int} (hp : PO n N F T W x y u z p) (h : GF n N F T x y a b kp) (h' : GF n N F T x' y' a b kp) (hx : bn n x' u) (hy : bn N y' z) : sm (fun k => x k * W k) n ≤ sm (fun k => x' k * W k) n := by
  have e1 := h p
  have e2 := h' p
  have k1 := sm_le (f := fun k => x k * (W k + (p (2 * F k + 1) - p (2 * T k)))) (g := fun k => x' k * (W k + (p (2 * F k + 1) - p (2 * T k)))) n (fun k k0 k1 => mul_up (hx k k0 k1).2 (hx k k0 k1).1 (hp.1 k k0 k1).1 (hp.1 k k0 k1).2)
  have k2 := sm_le (f := fun v => y v * (p (2 * v) - p (2 * v + 1))) (g := fun v => y' v * (p (2 * v) - p (2 * v + 1))) N (fun k k0 k1 => mul_up (hy k k0 k1).2 (hy k k0 k1).1 (hp.2 k k0 k1).1 (hp.2 k k0 k1).2)
  have s1 : sm (fun k => x k * (W k + (p (2 * F k + 1) - p (2 * T k)))) n = sm (fun k => x k * W k) n + sm (fun k => x k * (p (2 * F k + 1) - p (2 * T k))) n := by
    rw [← sm_add]; exact sm_congr n (fun k _ _ => Int.mul_add _ _ _)
  have s2 : sm (fun k => x' k * (W k + (p (2 * F k + 1) - p (2 * T k)))) n = sm (fun k => x' k * W k) n + sm (fun k => x' k * (p (2 * F k + 1) - p (2 * T k))) n := by
    rw [← sm_add]; exact sm_congr n (fun k _ _ => Int.mul_add _ _ _)
  omega
/-! cuts -/
def ic (R : Int → Bool) : Int → Int := fun q => if R q = true then 1 else 0
/-- the edge from q to r leaves R -/
def lv2 (R : Int → Bool) (q r c : Int) : Int := if R q = true ∧ R r = false then c else 0
theorem lv2_le {R : Int → Bool} {q r x c : Int} (h0 : 0 ≤ x) (h1 : x ≤ c) : x * (ic R q - ic R r) ≤ lv2 R q r c := by
  unfold ic lv2
  cases R q <;> cases R r <;> simp <;> omega
theorem lv2_eq {R : Int → Bool} {q r x c : Int} (h0 : R q = true → R r = false → x = c) (h1 : R q = false → R r = true → x = 0) : x * (ic R q - ic R r) = lv2 R q r c := by
  unfold ic lv2
  cases e1 : R q <;> cases e2 : R r <;> simp
  · exact h1 e1 e2
  · exact h0 e1 e2
theorem gf_cut {n N : Nat} {F T x y u z : Int → Int} {a b kp : Int} {R : Int → Bool} (h : GF n N F T x y a b kp) (hx : bn n x u) (hy : bn N y z) (hs : R (2 * a + 1) = true) (hg : R (2 * b) = false) : kp ≤ sm (fun k => lv2 R (2 * F k + 1) (2 * T k) (u k)) n + sm (fun v => lv2 R (2 * v) (2 * v + 1) (z v)) N := by
  have e := h (ic R)
  have i1 : ic R (2 * a + 1) = 1 := by simp [ic, hs]
  have i2 : ic R (2 * b) = 0 := by simp [ic, hg]
  rw [i1, i2] at e
  have k1 := sm_le (f := fun k => x k * (ic R (2 * F k + 1) - ic R (2 * T k))) (g := fun k => lv2 R (2 * F k + 1) (2 * T k) (u k)) n (fun k k0 k1 => lv2_le (hx k k0 k1).1 (hx k k0 k1).2)
  have k2 := sm_le (f := fun v => y v * (ic R (2 * v) - ic R (2 * v + 1))) (g := fun v => lv2 R (2 * v) (2 * v + 1) (z v)) N (fun k k0 k1 => lv2_le (hy k k0 k1).1 (hy k k0 k1).2)
  omega
theorem gf_cutE {n N : Nat} {F T x y u z : Int → Int} {a b kp : Int} {R : Int → Bool} (h : GF n N F T x y a b kp) (hs : R (2 * a + 1) = true) (hg : R (2 * b) = false)
    (hx : ∀ k : Int, 0 ≤ k → k < n → (R (2 * F k + 1) = true → R (2 * T k) = false → x k = u k) ∧ (R (2 * F k + 1) = false → R (2 * T k) = true → x k = 0))
    (hy : ∀ v : Int, 0 ≤ v → v < N → (R (2 * v) = true → R (2 * v + 1) = false → y v = z v) ∧ (R (2 * v) = false → R (2 * v + 1) = true → y v = 0)) :
    kp = sm (fun k => lv2 R (2 * F k + 1) (2 * T k) (u k)) n + sm (fun v => lv2 R (2 * v) (2 * v + 1) (z v)) N := by
  have e := h (ic R)
  have i1 : ic R (2 * a + 1) = 1 := by simp [ic, hs]
  have i2 : ic R (2 * b) = 0 := by simp [ic, hg]
  rw [i1, i2] at e
  have k1 := sm_congr (f := fun k => x k * (ic R (2 * F k + 1) - ic R (2 * T k))) (g := fun k => lv2 R (2 * F k + 1) (2 * T k) (u k)) n (fun k k0 k1 => lv2_eq (hx k k0 k1).1 (hx k k0 k1).2)
  have k2 := sm_congr (f := fun v => y v * (ic R (2 * v) - ic R (2 * v + 1))) (g := fun v => lv2 R (2 * v) (2 * v + 1) (z v)) N (fun k k0 k1 => lv2_eq (hy k k0 k1).1 (hy k k0 k1).2)
  omega
/-! out of a flow that isn't nothing: a path along it -/
/-- a way along the flow from w to v -/
def wa (n : Nat) (F T x y : Int → Int) (v : Int) : Int → List Int → Prop
  | w, [] => w = v
  | w, k :: P => 0 ≤ k ∧ k < n ∧ F k = w ∧ 0 < x k ∧ (P = [] ∨ 0 < y (T k)) ∧ wa n F T x y v (T k) P
theorem wa_snoc {n : Nat} {F T x y : Int → Int} {v k : Int} (k0 : 0 ≤ k) (k1 : k < n) (hF : F k = v) (hx : 0 < x k) (hy : 0 < y v) : ∀ (P : List Int) (w : Int), wa n F T x y v w P → P ≠ [] → wa n F T x y (T k) w (P ++ [k]) := by
  intro P
  induction P with
  | nil => intro w _ h; exact absurd rfl h
  | cons j P ih =>
    intro w hw _
    obtain ⟨a0, a1, a2, a3, a4, a5⟩ := hw
    refine ⟨a0, a1, a2, a3, Or.inr ?_, ?_⟩
    · rcases a4 with rfl | a4
      · have : T j = v := a5
        rw [this]; exact hy
      · exact a4
    · by_cases e : P = []
      · subst e
        have : T j = v := a5
        exact ⟨k0, k1, hF.trans this.symm, hx, Or.inl rfl, rfl⟩
      · exact ih (T j) a5 e
/-- the nodes of a way -/
def nl (T : Int → Int) (w : Int) : List Int → List Int
  | [] => [w]
  | k :: P => w :: nl T (T k) P
theorem wa_from {n : Nat} {F T x y : Int → Int} {v : Int} : ∀ (P : List Int) (w c : Int), wa n F T x y v w P → c ∈ nl T w P → ∃ P2, wa n F T x y v c P2 ∧ P2.length ≤ P.length := by
  intro P
  induction P with
  | nil =>
    intro w c hw hc
    have : c = w := by simpa [nl] using hc
    subst this
    exact ⟨[], hw, Nat.le_refl _⟩
  | cons j P ih =>
    intro w c hw hc
    rcases List.mem_cons.mp hc with rfl | hc
    · exact ⟨j :: P, hw, Nat.le_refl _⟩
    · obtain ⟨P2, h1, h2⟩ := ih (T j) c hw.2.2.2.2.2 hc
      exact ⟨P2, h1, by simp only [List.length_cons]; omega⟩
/-- a shortest way has no node twice -/
theorem wa_nodup {n : Nat} {F T x y : Int → Int} {v : Int} : ∀ (P : List Int) (w : Int), wa n F T x y v w P → (∀ P2, wa n F T x y v w P2 → P.length ≤ P2.length) → (nl T w P).Nodup := by
  intro P
  induction P with
  | nil => intro w _ _; simp [nl]
  | cons j P ih =>
    intro w hw hmin
    obtain ⟨a0, a1, a2, a3, a4, a5⟩ := hw
    refine List.nodup_cons.mpr ⟨fun hc => ?_, ih (T j) a5 (fun P2 h2 => ?_)⟩
    · obtain ⟨P2, h1, h2⟩ := wa_from P (T j) w a5 hc
      have := hmin P2 h1
      simp only [List.length_cons] at this
      omega
    · by_cases e : P2 = []
      · subst e
        have hv : T j = v := h2
        have := hmin [j] ⟨a0, a1, a2, a3, Or.inl rfl, hv⟩
        simp only [List.length_cons, List.length_nil] at this ⊢
        omega
      · by_cases hP : P = []
        · subst hP; simp
        · have := hmin (j :: P2) ⟨a0, a1, a2, a3, Or.inr (a4.resolve_left hP), h2⟩
          simp only [List.length_cons] at this
          omega
theorem nl_last {n : Nat} {F T x y : Int → Int} {v : Int} : ∀ (P : List Int) (w : Int), wa n F T x y v w P → v ∈ nl T w P := by
  intro P
  induction P with
  | nil => intro w h; have : w = v := h; subst this; simp [nl]
  | cons j P ih => intro w h; exact List.mem_cons_of_mem _ (ih _ h.2.2.2.2.2)
theorem nl_head {T : Int → Int} (w : Int) (P : List Int) : w ∈ nl T w P := by cases P <;> simp [nl]
/-- a way without a node twice is a path -/
theorem wa_vq {n : Nat} {F T Sh x y : Int → Int} {v : Int} (hS : ∀ k : Int, 0 ≤ k → k < n → 0 < x k → Sh k = 0) : ∀ (P : List Int) (w : Int) (seen : List Int), wa n F T x y v w P → (nl T w P).Nodup → (∀ c, c ∈ nl T w P → c ∉ seen) → vq n F T Sh v w seen P := by
  intro P
  induction P with
  | nil => intro w seen h _ _; exact h
  | cons j P ih =>
    intro w seen h hn hd
    obtain ⟨a0, a1, a2, a3, a4, a5⟩ := h
    obtain ⟨n1, n2⟩ := List.nodup_cons.mp hn
    refine ⟨fun c => n1 (by rw [c]; exact nl_last P _ a5), a0, a1, a2, hS j a0 a1 a3, fun hc => ?_, ih (T j) (w :: seen) a5 n2 (fun c hc hm => ?_)⟩
    · rcases List.mem_cons.mp hc with hc | hc
      · exact n1 (by rw [← hc]; exact nl_head _ _)
      · exact hd (T j) (List.mem_cons_of_mem _ (nl_head _ _)) hc
    · rcases List.mem_cons.mp hm with hm | hm
      · exact n1 (hm ▸ hc)
      · exact hd c (List.mem_cons_of_mem _ hc) hm
theorem wa_pos {n : Nat} {F T x y : Int → Int} {v : Int} : ∀ (P : List Int) (w : Int), wa n F T x y v w P → ∀ k, k ∈ P → 0 < x k := by
  intro P
  induction P with
  | nil => intro w _ k hk; cases hk
  | cons j P ih =>
    intro w h k hk
    obtain ⟨a0, a1, a2, a3, a4, a5⟩ := h
    rcases List.mem_cons.mp hk with rfl | hk
    · exact a3
    · exact ih _ a5 k hk
/-- the nodes that a path goes through: not the first one, not the last one -/
def inn (T : Int → Int) : List Int → List Int
  | [] => []
  | k :: P => if P = [] then [] else T k :: inn T P
theorem wa_inn {n : Nat} {F T x y : Int → Int} {v : Int} : ∀ (P : List Int) (w : Int), wa n F T x y v w P → ∀ c, c ∈ inn T P → 0 < y c := by
  intro P
  induction P with
  | nil => intro w _ c hc; cases hc
  | cons j P ih =>
    intro w h c hc
    obtain ⟨a0, a1, a2, a3, a4, a5⟩ := h
    unfold inn at hc
    split at hc
    · cases hc
    · next hP =>
      rcases List.mem_cons.mp hc with rfl | hc
      · exact a4.resolve_left hP
      · exact ih _ a5 c hc
theorem gf_path {n N : Nat} {F T Sh x y : Int → Int} {a b kp : Int} (h : GF n N F T x y a b kp) (hk : 0 < kp) (hab : a ≠ b) (hx : ∀ k : Int, 0 ≤ k → k < n → 0 ≤ x k) (hy : ∀ v : Int, 0 ≤ v → v < N → 0 ≤ y v) (hS : ∀ k : Int, 0 ≤ k → k < n → 0 < x k → Sh k = 0) (hya : y a = 0) :
    ∃ P, vq n F T Sh b a [] P ∧ (∀ k, k ∈ P → 0 < x k) ∧ (∀ c, c ∈ inn T P → 0 < y c) := by
  -- R: what can be come to
  let re : Int → Prop := fun q => ∃ v P, wa n F T x y v a P ∧ ((q = 2 * v ∧ P ≠ []) ∨ (q = 2 * v + 1 ∧ (P = [] ∨ 0 < y v)))
  let R : Int → Bool := fun q => @decide (re q) (Classical.propDecidable _)
  have hR : ∀ q, R q = true ↔ re q := fun q => @decide_eq_true_iff (re q) (Classical.propDecidable _)
  have hRf : ∀ q, R q = false ↔ ¬ re q := fun q => @decide_eq_false_iff_not (re q) (Classical.propDecidable _)
  have key : ∃ P, wa n F T x y b a P := by
    refine Classical.byContradiction (fun hno => ?_)
    have hs : R (2 * a + 1) = true := (hR _).mpr ⟨a, [], rfl, Or.inr ⟨rfl, Or.inl rfl⟩⟩
    have hg : R (2 * b) = false := by
      refine (hRf _).mpr ?_
      rintro ⟨v, P, hw, ⟨e, -⟩ | ⟨e, -⟩⟩
      · have : v = b := by omega
        subst this
        exact hno ⟨P, hw⟩
      · omega
    have e := h (ic R)
    have i1 : ic R (2 * a + 1) = 1 := by simp [ic, hs]
    have i2 : ic R (2 * b) = 0 := by simp [ic, hg]
    rw [i1, i2] at e
    have k1 := sm_le (f := fun k => x k * (ic R (2 * F k + 1) - ic R (2 * T k))) (g := fun _ => 0) n (fun k k0 k1 => by
      show x k * (ic R (2 * F k + 1) - ic R (2 * T k)) ≤ 0
      by_cases hx0 : x k = 0
      · rw [hx0]; simp
      · have hxp : 0 < x k := by have := hx k k0 k1; omega
        have : ic R (2 * F k + 1) ≤ ic R (2 * T k) := by
          unfold ic
          by_cases c : R (2 * F k + 1) = true
          · have : R (2 * T k) = true := by
              obtain ⟨v, P, hw, ⟨e, hP⟩ | ⟨e, hP⟩⟩ := (hR _).mp c
              · omega
              · have hv : F k = v := by omega
                refine (hR _).mpr ⟨T k, P ++ [k], ?_, Or.inl ⟨rfl, by simp⟩⟩
                by_cases hP0 : P = []
                · subst hP0
                  have : a = v := hw
                  exact ⟨k0, k1, hv.trans this.symm, hxp, Or.inl rfl, rfl⟩
                · exact wa_snoc k0 k1 hv hxp (hP.resolve_left hP0) P a hw hP0
            rw [if_pos c, if_pos this]; exact Int.le_refl _
          · rw [if_neg c]; split <;> omega
        exact Int.mul_nonpos_of_nonneg_of_nonpos (by omega) (by omega))
    have k2 := sm_le (f := fun v => y v * (ic R (2 * v) - ic R (2 * v + 1))) (g := fun _ => 0) N (fun v v0 v1 => by
      show y v * (ic R (2 * v) - ic R (2 * v + 1)) ≤ 0
      by_cases hy0 : y v = 0
      · rw [hy0]; simp
      · have hyp : 0 < y v := by have := hy v v0 v1; omega
        have : ic R (2 * v) ≤ ic R (2 * v + 1) := by
          unfold ic
          by_cases c : R (2 * v) = true
          · have : R (2 * v + 1) = true := by
              obtain ⟨v', P, hw, ⟨e, hP⟩ | ⟨e, hP⟩⟩ := (hR _).mp c
              · have hv : v' = v := by omega
                subst hv
                exact (hR _).mpr ⟨v', P, hw, Or.inr ⟨rfl, Or.inr hyp⟩⟩
              · omega
            rw [if_pos c, if_pos this]; exact Int.le_refl _
          · rw [if_neg c]; split <;> omega
        exact Int.mul_nonpos_of_nonneg_of_nonpos (by omega) (by omega))
    rw [sm_zero] at k1 k2
    omega
  obtain ⟨m, ⟨P, hP, hm⟩, hmin⟩ := pk_least (fun m => ∃ P, wa n F T x y b a P ∧ P.length = m) (by obtain ⟨P, hP⟩ := key; exact ⟨_, P, hP, rfl⟩)
  have hn := wa_nodup P a hP (fun P2 h2 => by
    refine Classical.byContradiction (fun q => hmin P2.length (by omega) ⟨P2, h2, rfl⟩))
  exact ⟨P, wa_vq hS P a [] hP hn (fun c _ hc => by cases hc), wa_pos P a hP, wa_inn P a hP⟩
end
section
/-! a flow falls into paths, and paths make a flow -/
theorem vq_fresh {n : Nat} {F T Sh : Int → Int} {b : Int} : ∀ (P : List Int) (u : Int) (seen : List Int), vq n F T Sh b u seen P → ∀ k, k ∈ P → T k ∉ u :: seen := by
  intro P
  induction P with
  | nil => intro u seen _ k hk; cases hk
  | cons j P ih =>
    intro u seen h k hk
    obtain ⟨a0, a1, a2, a3, a4, a5, a6⟩ := h
    rcases List.mem_cons.mp hk with rfl | hk
    · exact a5
    · exact fun hc => ih _ _ a6 k hk (List.mem_cons_of_mem _ hc)
theorem vq_nodup {n : Nat} {F T Sh : Int → Int} {b : Int} : ∀ (P : List Int) (u : Int) (seen : List Int), vq n F T Sh b u seen P → P.Nodup := by
  intro P
  induction P with
  | nil => intro u seen _; exact List.nodup_nil
  | cons j P ih =>
    intro u seen h
    obtain ⟨a0, a1, a2, a3, a4, a5, a6⟩ := h
    refine List.nodup_cons.mpr ⟨fun hj => ?_, ih _ _ a6⟩
    exact vq_fresh P _ _ a6 j hj List.mem_cons_self
theorem inn_mem {T : Int → Int} : ∀ (P : List Int) (c : Int), c ∈ inn T P → ∃ k, k ∈ P ∧ T k = c := by
  intro P
  induction P with
  | nil => intro c hc; cases hc
  | cons j P ih =>
    intro c hc
    unfold inn at hc
    split at hc
    · cases hc
    · rcases List.mem_cons.mp hc with rfl | hc
      · exact ⟨j, List.mem_cons_self, rfl⟩
      · obtain ⟨k, h1, h2⟩ := ih c hc
        exact ⟨k, List.mem_cons_of_mem _ h1, h2⟩
theorem vq_inn {n : Nat} {F T Sh : Int → Int} {b : Int} : ∀ (P : List Int) (u : Int) (seen : List Int), vq n F T Sh b u seen P → (inn T P).Nodup ∧ b ∉ inn T P ∧ ∀ c, c ∈ inn T P → c ∉ u :: seen := by
  intro P
  induction P with
  | nil => intro u seen _; exact ⟨List.nodup_nil, by simp [inn], fun c hc => by cases hc⟩
  | cons j P ih =>
    intro u seen h
    obtain ⟨a0, a1, a2, a3, a4, a5, a6⟩ := h
    obtain ⟨i1, i2, i3⟩ := ih _ _ a6
    unfold inn
    split
    · exact ⟨List.nodup_nil, by simp, fun c hc => by cases hc⟩
    · next hP =>
      refine ⟨List.nodup_cons.mpr ⟨fun hc => i3 _ hc List.mem_cons_self, i1⟩, fun hc => ?_, fun c hc => ?_⟩
      · rcases List.mem_cons.mp hc with h9 | h9
        · rcases P with _ | ⟨k, P⟩
          · exact hP rfl
          · exact a6.1 h9.symm
        · exact i2 h9
      · rcases List.mem_cons.mp hc with rfl | hc
        · exact a5
        · exact fun q => i3 c hc (List.mem_cons_of_mem _ q)
/-- along a path the prices cancel -/
theorem vq_tele {n : Nat} {F T Sh : Int → Int} {b : Int} (q : Int → Int) : ∀ (P : List Int) (u : Int) (seen : List Int), vq n F T Sh b u seen P → P ≠ [] → wp (fun k => q (2 * F k + 1) - q (2 * T k)) P + wp (fun c => q (2 * c) - q (2 * c + 1)) (inn T P) = q (2 * u + 1) - q (2 * b) := by
  intro P
  induction P with
  | nil => intro u seen _ h; exact absurd rfl h
  | cons j P ih =>
    intro u seen h _
    obtain ⟨a0, a1, a2, a3, a4, a5, a6⟩ := h
    by_cases hP : P = []
    · subst hP
      have e : T j = b := a6
      simp [inn, wp, a3, e]
    · have := ih _ _ a6 hP
      simp only [wp, inn, hP, if_false, a3]
      omega
theorem sm_pick {g : Int → Int} {a : Int} (n : Nat) (h0 : 0 ≤ a) (h1 : a < n) : sm (fun k => if a = k then g k else 0) n = g a := by
  have := sm_one (f := fun _ => 0) (g := fun k => if a = k then g k else 0) h0 n h1 (fun j _ _ hj => by
    show (if a = j then g j else 0) = 0
    rw [if_neg (fun q => hj q.symm)])
  rw [sm_zero] at this
  simpa using this
theorem sm_cnt {g : Int → Int} (n : Nat) : ∀ P : List Int, (∀ k, k ∈ P → 0 ≤ k ∧ k < n) → sm (fun k => (P.count k : Nat) * g k) n = wp g P := by
  intro P
  induction P with
  | nil => intro _; simp only [List.count_nil, wp]; rw [← sm_zero n]; exact sm_congr n (fun _ _ _ => by simp)
  | cons a P ih =>
    intro h
    have h1 := ih (fun k hk => h k (List.mem_cons_of_mem _ hk))
    obtain ⟨a0, a1⟩ := h a List.mem_cons_self
    have e : sm (fun k => ((a :: P).count k : Nat) * g k) n = sm (fun k => (P.count k : Nat) * g k + (if a = k then g k else 0)) n := sm_congr n (fun k _ _ => by
      simp only [List.count_cons, beq_iff_eq]
      split <;> simp [Int.add_mul])
    rw [e, sm_add, h1, sm_pick n a0 a1]
    simp only [wp]
    omega
def tt (f : List Int → Int) : List (List Int) → Int
  | [] => 0
  | P :: L => f P + tt f L
theorem tt_nn {f : List Int → Int} (hf : ∀ P, 0 ≤ f P) : ∀ L, 0 ≤ tt f L
  | [] => Int.le_refl _
  | P :: L => by have := tt_nn hf L; have := hf P; simp only [tt]; omega
theorem tt_mem {f : List Int → Int} (hf : ∀ P, 0 ≤ f P) : ∀ L P, P ∈ L → f P ≤ tt f L
  | Q :: L, P, h => by
    simp only [tt]
    rcases List.mem_cons.mp h with rfl | h
    · have := tt_nn hf L; omega
    · have := tt_mem hf L P h; have := hf Q; omega
theorem gf_split {n N : Nat} {F T Sh W : Int → Int} {a b : Int} (hab : a ≠ b) (hW : ∀ k, 0 ≤ W k) (hT : ∀ k : Int, 0 ≤ k → k < n → 0 ≤ T k ∧ T k < N) : ∀ (kp : Nat) (x y : Int → Int), GF n N F T x y a b kp → (∀ k : Int, 0 ≤ k → k < n → 0 ≤ x k) → (∀ v : Int, 0 ≤ v → v < N → 0 ≤ y v) → (∀ k : Int, 0 ≤ k → k < n → 0 < x k → Sh k = 0) → y a = 0 →
    ∃ Ps : List (List Int), Ps.length = kp ∧ (∀ P, P ∈ Ps → vq n F T Sh b a [] P) ∧ (∀ k : Int, 0 ≤ k → k < n → tt (fun P => (P.count k : Nat)) Ps ≤ x k) ∧ (∀ v : Int, 0 ≤ v → v < N → tt (fun P => ((inn T P).count v : Nat)) Ps ≤ y v) ∧ tt (wp W) Ps ≤ sm (fun k => x k * W k) n := by
  intro kp
  induction kp with
  | zero =>
    intro x y _ hx hy _ _
    exact ⟨[], rfl, (fun P h => by cases h), fun k k0 k1 => hx k k0 k1, fun v v0 v1 => hy v v0 v1, sm_nn n (fun k k0 k1 => Int.mul_nonneg (hx k k0 k1) (hW k))⟩
  | succ kp ih =>
    intro x y h hx hy hS hya
    obtain ⟨P, hP, hPx, hPy⟩ := gf_path h (by omega) hab hx hy hS hya
    have hPn := vq_nodup P a [] hP
    have hPa := vq_arcs P a [] hP
    obtain ⟨i1, i2, i3⟩ := vq_inn P a [] hP
    have hne : P ≠ [] := fun e => by subst e; exact hab hP
    have hin : ∀ c, c ∈ inn T P → 0 ≤ c ∧ c < (N : Int) := fun c hc => by
      obtain ⟨k, h1, h2⟩ := inn_mem P c hc
      rw [← h2]; exact hT k (hPa k h1).1 (hPa k h1).2
    have c1 : ∀ k, (P.count k : Nat) ≤ 1 := fun k => List.nodup_iff_count.mp hPn k
    have c2 : ∀ k, ((inn T P).count k : Nat) ≤ 1 := fun k => List.nodup_iff_count.mp i1 k
    have x1 : ∀ k : Int, 0 ≤ k → k < n → 0 ≤ x k - (P.count k : Nat) := fun k k0 k1 => by
      by_cases hk : k ∈ P
      · have := hPx k hk; have := c1 k; omega
      · have : P.count k = 0 := List.count_eq_zero.mpr hk
        have := hx k k0 k1; omega
    have y1 : ∀ k : Int, 0 ≤ k → k < N → 0 ≤ y k - ((inn T P).count k : Nat) := fun k k0 k1 => by
      by_cases hk : k ∈ inn T P
      · have := hPy k hk; have := c2 k; omega
      · have : (inn T P).count k = 0 := List.count_eq_zero.mpr hk
        have := hy k k0 k1; omega
    have hG : GF n N F T (fun k => x k - (P.count k : Nat)) (fun v => y v - ((inn T P).count v : Nat)) a b kp := by
      intro q
      have e0 := h q
      have e1 := vq_tele q P a [] hP hne
      have s1 : sm (fun k => (x k - (P.count k : Nat)) * (q (2 * F k + 1) - q (2 * T k))) n = sm (fun k => x k * (q (2 * F k + 1) - q (2 * T k))) n - sm (fun k => (P.count k : Nat) * (q (2 * F k + 1) - q (2 * T k))) n := by
        rw [← sm_sub]; exact sm_congr n (fun k _ _ => Int.sub_mul _ _ _)
      have s2 : sm (fun v => (y v - ((inn T P).count v : Nat)) * (q (2 * v) - q (2 * v + 1))) N = sm (fun v => y v * (q (2 * v) - q (2 * v + 1))) N - sm (fun v => ((inn T P).count v : Nat) * (q (2 * v) - q (2 * v + 1))) N := by
        rw [← sm_sub]; exact sm_congr N (fun k _ _ => Int.sub_mul _ _ _)
      rw [s1, s2, sm_cnt (g := fun k => q (2 * F k + 1) - q (2 * T k)) n P hPa, sm_cnt (g := fun c => q (2 * c) - q (2 * c + 1)) N (inn T P) hin]
      have e2 : ((kp + 1 : Nat) : Int) * (q (2 * a + 1) - q (2 * b)) = kp * (q (2 * a + 1) - q (2 * b)) + (q (2 * a + 1) - q (2 * b)) := by
        rw [show ((kp + 1 : Nat) : Int) = (kp : Int) + 1 by omega, Int.add_mul, Int.one_mul]
      rw [e2] at e0
      omega
    have hya' : y a - ((inn T P).count a : Nat) = 0 := by
      have : (inn T P).count a = 0 := List.count_eq_zero.mpr (fun hc => i3 a hc List.mem_cons_self)
      omega
    obtain ⟨Ps, p1, p2, p3, p4, p5⟩ := ih _ _ hG x1 y1 (fun k k0 k1 hk => hS k k0 k1 (by have := c1 k; omega)) hya'
    refine ⟨P :: Ps, by simp [p1], fun Q hQ => ?_, fun k k0 k1 => ?_, fun v v0 v1 => ?_, ?_⟩
    · rcases List.mem_cons.mp hQ with rfl | hQ
      · exact hP
      · exact p2 Q hQ
    · have := p3 k k0 k1; simp only [tt]; omega
    · have := p4 v v0 v1; simp only [tt]; omega
    · have s1 : sm (fun k => (x k - (P.count k : Nat)) * W k) n = sm (fun k => x k * W k) n - sm (fun k => (P.count k : Nat) * W k) n := by
        rw [← sm_sub]; exact sm_congr n (fun k _ _ => Int.sub_mul _ _ _)
      rw [s1, sm_cnt n P hPa] at p5
      simp only [tt]; omega
/-- no arc in common -/
def da (P Q : List Int) : Prop := ∀ k, k ∈ P → k ∉ Q
/-- apart: by = 0 by arcs, else by nodes too -/
def ap (T : Int → Int) (by_ : Int) (P Q : List Int) : Prop := da P Q ∧ (by_ = 1 → da (inn T P) (inn T Q))
theorem da_sym {P Q : List Int} (h : da P Q) : da Q P := fun k h1 h2 => h k h2 h1
theorem ap_sym {T : Int → Int} {by_ : Int} {P Q : List Int} (h : ap T by_ P Q) : ap T by_ Q P := ⟨da_sym h.1, fun e => da_sym (h.2 e)⟩
theorem tt_da {f : List Int → List Int} : ∀ (Ps : List (List Int)), (∀ k, tt (fun P => ((f P).count k : Nat)) Ps ≤ 1) → Ps.Pairwise (fun P Q => da (f P) (f Q)) := by
  intro Ps
  induction Ps with
  | nil => intro _; exact List.Pairwise.nil
  | cons P Ps ih =>
    intro h
    have nn : ∀ k, ∀ P : List Int, (0 : Int) ≤ ((f P).count k : Nat) := fun k P => by omega
    refine List.Pairwise.cons (fun Q hQ k hk hq => ?_) (ih (fun k => ?_))
    · have h1 := h k
      simp only [tt] at h1
      have h2 := tt_mem (f := fun P => ((f P).count k : Nat)) (nn k) Ps Q hQ
      have h3 : 0 < (f P).count k := List.count_pos_iff.mpr hk
      have h4 : 0 < (f Q).count k := List.count_pos_iff.mpr hq
      omega
    · have h1 := h k
      simp only [tt] at h1
      have := nn k P
      omega
/-- paths make a flow -/
theorem gf_join {n N : Nat} {F T Sh : Int → Int} {a b : Int} (hab : a ≠ b) (hT : ∀ k : Int, 0 ≤ k → k < n → 0 ≤ T k ∧ T k < N) : ∀ (Ps : List (List Int)), (∀ P, P ∈ Ps → vq n F T Sh b a [] P) → GF n N F T (fun k => tt (fun P => (P.count k : Nat)) Ps) (fun v => tt (fun P => ((inn T P).count v : Nat)) Ps) a b Ps.length := by
  intro Ps
  induction Ps with
  | nil =>
    intro _ q
    have e1 : sm (fun k => tt (fun P => (P.count k : Nat)) [] * (q (2 * F k + 1) - q (2 * T k))) n = 0 := by
      rw [← sm_zero n]; exact sm_congr n (fun _ _ _ => by simp [tt])
    have e2 : sm (fun v => tt (fun P => ((inn T P).count v : Nat)) [] * (q (2 * v) - q (2 * v + 1))) N = 0 := by
      rw [← sm_zero N]; exact sm_congr N (fun _ _ _ => by simp [tt])
    rw [e1, e2]
    simp
  | cons P Ps ih =>
    intro h q
    have h1 : sm (fun k => tt (fun P => (P.count k : Nat)) Ps * (q (2 * F k + 1) - q (2 * T k))) n + sm (fun v => tt (fun P => ((inn T P).count v : Nat)) Ps * (q (2 * v) - q (2 * v + 1))) N = Ps.length * (q (2 * a + 1) - q (2 * b)) := ih (fun Q hQ => h Q (List.mem_cons_of_mem _ hQ)) q
    have hP := h P List.mem_cons_self
    have hPa := vq_arcs P a [] hP
    have hne : P ≠ [] := fun e => by subst e; exact hab hP
    have hin : ∀ c, c ∈ inn T P → 0 ≤ c ∧ c < (N : Int) := fun c hc => by
      obtain ⟨k, h1, h2⟩ := inn_mem P c hc
      rw [← h2]; exact hT k (hPa k h1).1 (hPa k h1).2
    have e1 := vq_tele q P a [] hP hne
    have s1 : sm (fun k => tt (fun P => (P.count k : Nat)) (P :: Ps) * (q (2 * F k + 1) - q (2 * T k))) n = sm (fun k => (P.count k : Nat) * (q (2 * F k + 1) - q (2 * T k))) n + sm (fun k => tt (fun P => (P.count k : Nat)) Ps * (q (2 * F k + 1) - q (2 * T k))) n := by
      rw [← sm_add]; exact sm_congr n (fun k _ _ => Int.add_mul _ _ _)
    have s2 : sm (fun v => tt (fun P => ((inn T P).count v : Nat)) (P :: Ps) * (q (2 * v) - q (2 * v + 1))) N = sm (fun v => ((inn T P).count v : Nat) * (q (2 * v) - q (2 * v + 1))) N + sm (fun v => tt (fun P => ((inn T P).count v : Nat)) Ps * (q (2 * v) - q (2 * v + 1))) N := by
      rw [← sm_add]; exact sm_congr N (fun k _ _ => Int.add_mul _ _ _)
    rw [s1, s2, sm_cnt (g := fun k => q (2 * F k + 1) - q (2 * T k)) n P hPa, sm_cnt (g := fun c => q (2 * c) - q (2 * c + 1)) N (inn T P) hin]
    have e2 : (((P :: Ps).length : Nat) : Int) * (q (2 * a + 1) - q (2 * b)) = Ps.length * (q (2 * a + 1) - q (2 * b)) + (q (2 * a + 1) - q (2 * b)) := by
      rw [show (((P :: Ps).length : Nat) : Int) = (Ps.length : Int) + 1 by simp, Int.add_mul, Int.one_mul]
    generalize (((P :: Ps).length : Nat) : Int) * (q (2 * a + 1) - q (2 * b)) = z1 at *
    generalize (Ps.length : Int) * (q (2 * a + 1) - q (2 * b)) = z2 at *
    omega
theorem tt_wp {n : Nat} {W : Int → Int} : ∀ (Ps : List (List Int)), (∀ P, P ∈ Ps → ∀ k, k ∈ P → 0 ≤ k ∧ k < n) → sm (fun k => tt (fun P => (P.count k : Nat)) Ps * W k) n = tt (wp W) Ps := by
  intro Ps
  induction Ps with
  | nil => intro _; rw [sm_congr (g := fun _ => 0) n (fun _ _ _ => by simp [tt]), sm_zero]; rfl
  | cons P Ps ih =>
    intro h
    have s1 : sm (fun k => tt (fun P => (P.count k : Nat)) (P :: Ps) * W k) n = sm (fun k => (P.count k : Nat) * W k) n + sm (fun k => tt (fun P => (P.count k : Nat)) Ps * W k) n := by
      rw [← sm_add]; exact sm_congr n (fun k _ _ => Int.add_mul _ _ _)
    rw [s1, sm_cnt n P (h P List.mem_cons_self), ih (fun Q hQ => h Q (List.mem_cons_of_mem _ hQ))]
    simp only [tt]
end
section
/-! the search for c paths that are apart, of least weight together: over a list by rising weight -/
def se (w : List Int → Int) (cf : List Int → List (List Int) → Bool) : List (List Int) → Nat → Int → List (List Int) → Int → Int
  | [], _, _, _, best => best
  | P :: L, c, s, u, best =>
    if best ≠ -1 ∧ best ≤ s + c * w P then best
    else if cf P u = true then se w cf L c s u best
    else if c = 1 then se w cf L c s u (s + w P)
    else se w cf L c s u (se w cf L (c - 1) (s + w P) (P :: u) best)
def okc (T : Int → Int) (by_ : Int) (u Q : List (List Int)) : Prop := (∀ P, P ∈ Q → ∀ R, R ∈ u → ap T by_ R P) ∧ Q.Pairwise (ap T by_)
theorem tt_ge {w : List Int → Int} {c : Int} : ∀ Q : List (List Int), (∀ P, P ∈ Q → c ≤ w P) → Q.length * c ≤ tt w Q
  | [], _ => by simp [tt]
  | P :: Q, h => by
    have h1 := tt_ge Q (fun R hR => h R (List.mem_cons_of_mem _ hR))
    have h2 := h P List.mem_cons_self
    simp only [tt, List.length_cons]
    rw [show ((Q.length + 1 : Nat) : Int) = (Q.length : Int) + 1 by omega, Int.add_mul, Int.one_mul]
    omega
theorem se_spec {T : Int → Int} {by_ : Int} {w : List Int → Int} (hw : ∀ P, 0 ≤ w P) {cf : List Int → List (List Int) → Bool} (hc : ∀ P u, cf P u = false ↔ ∀ R, R ∈ u → ap T by_ R P) : ∀ (L : List (List Int)), L.Pairwise (fun P Q => w P ≤ w Q) → ∀ (c : Nat) (s : Int) (u : List (List Int)) (best : Int), 1 ≤ c → 0 ≤ s → -1 ≤ best →
    -1 ≤ se w cf L c s u best ∧ (best ≠ -1 → se w cf L c s u best ≠ -1 ∧ se w cf L c s u best ≤ best) ∧ (se w cf L c s u best = best ∨ ∃ Q, Q.Sublist L ∧ Q.length = c ∧ okc T by_ u Q ∧ se w cf L c s u best = s + tt w Q) ∧
    (∀ Q, Q.Sublist L → Q.length = c → okc T by_ u Q → se w cf L c s u best ≠ -1 ∧ se w cf L c s u best ≤ s + tt w Q) := by
  intro L
  induction L with
  | nil =>
    intro _ c s u best h1 _ h3
    refine ⟨h3, fun h => ⟨h, Int.le_refl _⟩, Or.inl rfl, fun Q hQ hl _ => ?_⟩
    have : Q = [] := List.sublist_nil.mp hQ
    subst this
    simp at hl
    omega
  | cons P L ih =>
    intro hs c s u best h1 h2 h3
    obtain ⟨s1, s2⟩ := List.pairwise_cons.mp hs
    have ih := ih s2
    have hwP := hw P
    by_cases ce : best ≠ -1 ∧ best ≤ s + c * w P
    · have e : se w cf (P :: L) c s u best = best := by simp only [se]; rw [if_pos ce]
      rw [e]
      refine ⟨h3, fun h => ⟨h, Int.le_refl _⟩, Or.inl rfl, fun Q hQ hl _ => ⟨ce.1, ?_⟩⟩
      have := tt_ge (w := w) (c := w P) Q (fun R hR => by
        rcases List.mem_cons.mp (hQ.subset hR) with rfl | h
        · exact Int.le_refl _
        · exact s1 R h)
      rw [hl] at this
      omega
    · by_cases cc : cf P u = true
      · have e : se w cf (P :: L) c s u best = se w cf L c s u best := by simp only [se]; rw [if_neg ce, if_pos cc]
        rw [e]
        obtain ⟨i0, i1, i2, i3⟩ := ih c s u best h1 h2 h3
        refine ⟨i0, i1, ?_, fun Q hQ hl ho => ?_⟩
        · rcases i2 with h | ⟨Q, q1, q2⟩
          · exact Or.inl h
          · exact Or.inr ⟨Q, q1.cons P, q2⟩
        · cases hQ with
          | cons _ hQ => exact i3 Q hQ hl ho
          | cons_cons _ hQ =>
            have := (hc P u).mpr (fun R hR => ho.1 P List.mem_cons_self R hR)
            rw [this] at cc
            cases cc
      · have cc' : cf P u = false := by cases h : cf P u with
          | true => exact absurd h cc
          | false => rfl
        have hPu := (hc P u).mp cc'
        have hlt : best ≠ -1 → s + c * w P < best := fun h => by
          refine Classical.byContradiction (fun q => ce ⟨h, by omega⟩)
        by_cases c1 : c = 1
        · subst c1
          have e : se w cf (P :: L) 1 s u best = se w cf L 1 s u (s + w P) := by simp only [se]; rw [if_neg ce, if_neg cc, if_pos trivial]
          rw [e]
          obtain ⟨i0, i1, i2, i3⟩ := ih 1 s u (s + w P) h1 h2 (by omega)
          have i1' := i1 (by omega)
          refine ⟨i0, fun h => ⟨i1'.1, ?_⟩, ?_, fun Q hQ hl ho => ?_⟩
          · have := hlt h
            simp only [Int.natCast_one, Int.one_mul] at this
            omega
          · right
            rcases i2 with h | ⟨Q, q1, q2, q3, q4⟩
            · refine ⟨[P], by simp, rfl, ⟨fun R hR => ?_, by simp⟩, by rw [h]; simp [tt]⟩
              have : R = P := by simpa using hR
              subst this
              exact hPu
            · exact ⟨Q, q1.cons P, q2, q3, q4⟩
          · cases hQ with
            | cons _ hQ => exact i3 Q hQ hl ho
            | cons_cons _ hQ =>
              rename_i Q'
              have : Q' = [] := by
                simp only [List.length_cons] at hl
                exact List.eq_nil_of_length_eq_zero (by omega)
              subst this
              simp only [tt]
              exact ⟨i1'.1, by omega⟩
        · have e : se w cf (P :: L) c s u best = se w cf L c s u (se w cf L (c - 1) (s + w P) (P :: u) best) := by simp only [se]; rw [if_neg ce, if_neg cc, if_neg c1]
          rw [e]
          obtain ⟨j0, j1, j2, j3⟩ := ih (c - 1) (s + w P) (P :: u) best (by omega) (by omega) h3
          generalize se w cf L (c - 1) (s + w P) (P :: u) best = r1 at *
          obtain ⟨i0, i1, i2, i3⟩ := ih c s u r1 h1 h2 j0
          refine ⟨i0, fun h => ?_, ?_, fun Q hQ hl ho => ?_⟩
          · obtain ⟨a1, a2⟩ := j1 h
            obtain ⟨b1, b2⟩ := i1 a1
            exact ⟨b1, by omega⟩
          · rcases i2 with h | ⟨Q, q1, q2⟩
            · rcases j2 with h' | ⟨Q, q1, q2, q3, q4⟩
              · left; omega
              · right
                refine ⟨P :: Q, q1.cons_cons P, by simp only [List.length_cons]; omega, ⟨fun R hR S hS => ?_, List.Pairwise.cons (fun R hR => q3.1 R hR P List.mem_cons_self) q3.2⟩, by rw [h]; simp only [tt]; omega⟩
                rcases List.mem_cons.mp hR with rfl | hR
                · exact hPu S hS
                · exact q3.1 R hR S (List.mem_cons_of_mem _ hS)
            · exact Or.inr ⟨Q, q1.cons P, q2⟩
          · cases hQ with
            | cons _ hQ => exact i3 Q hQ hl ho
            | cons_cons _ hQ =>
              rename_i Q'
              simp only [List.length_cons] at hl
              obtain ⟨o1, o2⟩ := List.pairwise_cons.mp ho.2
              obtain ⟨a1, a2⟩ := j3 Q' hQ (by omega) ⟨fun R hR S hS => by
                rcases List.mem_cons.mp hS with rfl | hS
                · exact o1 R hR
                · exact ho.1 R (List.mem_cons_of_mem _ hR) S hS, o2⟩
              obtain ⟨b1, b2⟩ := i1 a1
              simp only [tt]
              exact ⟨b1, by omega⟩
/-- paths of a list, in its order -/
theorem sub_perm {α : Type} [DecidableEq α] : ∀ (R Ps : List α), Ps.Nodup → (∀ P, P ∈ Ps → P ∈ R) → ∃ Q : List α, Q.Sublist R ∧ Q.Perm Ps := by
  intro R
  induction R with
  | nil =>
    intro Ps _ h
    refine ⟨[], List.Sublist.refl _, ?_⟩
    cases Ps with
    | nil => exact List.Perm.refl _
    | cons P Ps => exact absurd (h P List.mem_cons_self) (by simp)
  | cons r R ih =>
    intro Ps hn h
    by_cases c : r ∈ Ps
    · obtain ⟨Q, q1, q2⟩ := ih (Ps.erase r) (hn.erase r) (fun P hP => by
        have hne : P ≠ r := fun e => by subst e; exact (hn.not_mem_erase hP)
        rcases List.mem_cons.mp (h P (List.mem_of_mem_erase hP)) with e | e
        · exact absurd e hne
        · exact e)
      exact ⟨r :: Q, q1.cons_cons r, (q2.cons r).trans (List.perm_cons_erase c).symm⟩
    · obtain ⟨Q, q1, q2⟩ := ih Ps hn (fun P hP => by
        rcases List.mem_cons.mp (h P hP) with e | e
        · exact absurd (e ▸ hP) c
        · exact e)
      exact ⟨Q, q1.cons r, q2⟩
theorem tt_perm {w : List Int → Int} {A B : List (List Int)} (h : A.Perm B) : tt w A = tt w B := by
  induction h with
  | nil => rfl
  | cons x _ ih => simp only [tt]; omega
  | swap x y l => simp only [tt]; omega
  | trans _ _ i1 i2 => exact i1.trans i2
end
section
/-! cuts of a graph: by arcs and by nodes -/
/-- how many arcs go out of the nodes of m -/
def ou (n : Nat) (F T Sh : Int → Int) (m : Int → Bool) : Int := sm (fun k => if Sh k = 0 ∧ m (F k) = true ∧ m (T k) = false then 1 else 0) n
def ua (Sh : Int → Int) (k : Int) : Int := if Sh k = 0 then 1 else 0
def zn (a b c : Int) (v : Int) : Int := if v = a ∨ v = b then 0 else c
theorem ou_le {n : Nat} {F T Sh : Int → Int} {m : Int → Bool} : ou n F T Sh m ≤ n := by
  unfold ou
  have := sm_le (f := fun k => if Sh k = 0 ∧ m (F k) = true ∧ m (T k) = false then 1 else 0) (g := fun _ => 1) n (fun k _ _ => by
    show (if Sh k = 0 ∧ m (F k) = true ∧ m (T k) = false then (1 : Int) else 0) ≤ 1
    split <;> omega)
  have h1 : ∀ n : Nat, sm (fun _ => 1) n = n := by
    intro n
    induction n with
    | zero => rfl
    | succ n ih => simp only [sm]; omega
  rw [h1] at this
  exact this
theorem lv2_v {R : Int → Bool} {q r c : Int} {x y : Bool} (hx : R q = x) (hy : R r = y) : lv2 R q r c = if x = true ∧ y = false then c else 0 := by
  subst hx; subst hy; rfl
theorem cut0_le {n N : Nat} {F T Sh x y : Int → Int} {a b kp c : Int} (h : GF n N F T x y a b kp) (hx : bn n x (ua Sh)) (hy : bn N y (zn a b c)) {m : Int → Bool} (ha : m a = true) (hb : m b = false) : kp ≤ ou n F T Sh m := by
  have r0 : ∀ v, (fun q : Int => m (q / 2)) (2 * v) = m v := fun v => by
    show m (2 * v / 2) = m v
    rw [show 2 * v / 2 = v by omega]
  have r1 : ∀ v, (fun q : Int => m (q / 2)) (2 * v + 1) = m v := fun v => by
    show m ((2 * v + 1) / 2) = m v
    rw [show (2 * v + 1) / 2 = v by omega]
  have h1 := gf_cut (R := fun q => m (q / 2)) h hx hy ((r1 a).trans ha) ((r0 b).trans hb)
  have e1 : sm (fun v => lv2 (fun q => m (q / 2)) (2 * v) (2 * v + 1) (zn a b c v)) N = 0 := by
    rw [← sm_zero N]
    refine sm_congr N (fun v _ _ => ?_)
    rw [lv2_v (R := fun q => m (q / 2)) (q := 2 * v) (r := 2 * v + 1) (r0 v) (r1 v)]
    cases m v <;> simp
  have e2 : sm (fun k => lv2 (fun q => m (q / 2)) (2 * F k + 1) (2 * T k) (ua Sh k)) n = ou n F T Sh m := by
    unfold ou
    refine sm_congr n (fun k _ _ => ?_)
    rw [lv2_v (R := fun q => m (q / 2)) (q := 2 * F k + 1) (r := 2 * T k) (r1 (F k)) (r0 (T k))]
    unfold ua
    by_cases c1 : Sh k = 0
    · simp [c1]
    · simp [c1]
  omega
/-- R: a set of places that no flow can leave any more -/
def shutR (n N : Nat) (F T x y u z : Int → Int) (R : Int → Bool) : Prop :=
  (∀ k : Int, 0 ≤ k → k < n → (R (2 * F k + 1) = true → R (2 * T k) = false → x k = u k) ∧ (R (2 * F k + 1) = false → R (2 * T k) = true → x k = 0)) ∧
  (∀ v : Int, 0 ≤ v → v < N → (R (2 * v) = true → R (2 * v + 1) = false → y v = z v) ∧ (R (2 * v) = false → R (2 * v + 1) = true → y v = 0))
theorem lv2_nn {R : Int → Bool} {q r c : Int} (h : 0 ≤ c) : 0 ≤ lv2 R q r c := by
  unfold lv2
  split <;> omega
theorem cut0_ge {n N : Nat} {F T Sh x y : Int → Int} {a b kp c : Int} (hab : a ≠ b) (hn : (n : Int) ≤ c) (hT : ∀ k : Int, 0 ≤ k → k < n → 0 ≤ T k ∧ T k < N) (h : GF n N F T x y a b kp) {R : Int → Bool} (hR : shutR n N F T x y (ua Sh) (zn a b c) R) (hs : R (2 * a + 1) = true) (hg : R (2 * b) = false) :
    ∃ m : Int → Bool, m a = true ∧ m b = false ∧ ou n F T Sh m ≤ kp := by
  have e := gf_cutE h hs hg hR.1 hR.2
  have hc : ∀ v, 0 ≤ zn a b c v := fun v => by unfold zn; split <;> omega
  have hu : ∀ k, 0 ≤ ua Sh k := fun v => by unfold ua; split <;> omega
  have n1 := sm_nn (f := fun k => lv2 R (2 * F k + 1) (2 * T k) (ua Sh k)) n (fun k _ _ => lv2_nn (hu k))
  have n2 := sm_nn (f := fun v => lv2 R (2 * v) (2 * v + 1) (zn a b c v)) N (fun k _ _ => lv2_nn (hc k))
  refine ⟨fun v => !(decide (v = b)) && R (2 * v + 1), by simp [hab, hs], by simp, ?_⟩
  by_cases q : ∃ v : Int, 0 ≤ v ∧ v < N ∧ v ≠ a ∧ v ≠ b ∧ R (2 * v) = true ∧ R (2 * v + 1) = false
  · obtain ⟨v, v0, v1, va, vb, r1, r2⟩ := q
    have h1 := sm_part (f := fun v => lv2 R (2 * v) (2 * v + 1) (zn a b c v)) N (fun k _ _ => lv2_nn (hc k)) v0 v1
    have h2 : lv2 R (2 * v) (2 * v + 1) (zn a b c v) = c := by simp [lv2, zn, r1, r2, va, vb]
    have := ou_le (n := n) (F := F) (T := T) (Sh := Sh) (m := fun v => !(decide (v = b)) && R (2 * v + 1))
    omega
  · have h1 : ou n F T Sh (fun v => !(decide (v = b)) && R (2 * v + 1)) ≤ sm (fun k => lv2 R (2 * F k + 1) (2 * T k) (ua Sh k)) n := by
      unfold ou
      refine sm_le n (fun k k0 k1 => ?_)
      show (if Sh k = 0 ∧ (!(decide (F k = b)) && R (2 * F k + 1)) = true ∧ (!(decide (T k = b)) && R (2 * T k + 1)) = false then (1 : Int) else 0) ≤ lv2 R (2 * F k + 1) (2 * T k) (ua Sh k)
      split
      · next hc2 =>
        obtain ⟨c1, c2, c3⟩ := hc2
        have f1 : R (2 * F k + 1) = true := by
          simp only [Bool.and_eq_true] at c2; exact c2.2
        have f2 : R (2 * T k) = false := by
          by_cases tb : T k = b
          · rw [tb]; exact hg
          · cases r : R (2 * T k) with
            | false => rfl
            | true =>
              have r2 : R (2 * T k + 1) = false := by simpa [tb] using c3
              by_cases ta : T k = a
              · rw [ta, hs] at r2; cases r2
              · exact absurd ⟨T k, (hT k k0 k1).1, (hT k k0 k1).2, ta, tb, r, r2⟩ q
        simp [lv2, f1, f2, ua, c1]
      · exact lv2_nn (hu k)
    omega
/-! by nodes -/
/-- how many arcs go from a to b at once -/
def di (n : Nat) (F T Sh : Int → Int) (a b : Int) : Int := sm (fun k => if Sh k = 0 ∧ F k = a ∧ T k = b then 1 else 0) n
def mn (N : Nat) (m : Int → Bool) : Int := sm (fun v => if m v = true then 1 else 0) N
/-- g: what is come to from a without the nodes of m, and without the arcs from a to b -/
def clo (n : Nat) (F T Sh : Int → Int) (a b : Int) (m g : Int → Bool) : Prop := g a = true ∧ g b = false ∧ ∀ k : Int, 0 ≤ k → k < n → Sh k = 0 → g (F k) = true → m (T k) = false → ¬ (F k = a ∧ T k = b) → g (T k) = true
theorem cut1_le {n N : Nat} {F T Sh x y : Int → Int} {a b kp : Int} (h : GF n N F T x y a b kp) (hx : bn n x (ua Sh)) (hy : bn N y (zn a b 1)) {m g : Int → Bool} (hg : clo n F T Sh a b m g) (hb : m b = false) : kp ≤ di n F T Sh a b + mn N m := by
  obtain ⟨g1, g2, g3⟩ := hg
  have r0 : ∀ v, (fun q : Int => g (q / 2) || (decide (q % 2 = 0) && m (q / 2))) (2 * v) = (g v || m v) := fun v => by
    show (g (2 * v / 2) || (decide (2 * v % 2 = 0) && m (2 * v / 2))) = (g v || m v)
    rw [show 2 * v / 2 = v by omega, show 2 * v % 2 = 0 by omega]
    simp
  have r1 : ∀ v, (fun q : Int => g (q / 2) || (decide (q % 2 = 0) && m (q / 2))) (2 * v + 1) = g v := fun v => by
    show (g ((2 * v + 1) / 2) || (decide ((2 * v + 1) % 2 = 0) && m ((2 * v + 1) / 2))) = g v
    rw [show (2 * v + 1) / 2 = v by omega, show (2 * v + 1) % 2 = 1 by omega]
    simp
  have h1 := gf_cut (R := fun q => g (q / 2) || (decide (q % 2 = 0) && m (q / 2))) h hx hy ((r1 a).trans g1) ((r0 b).trans (by rw [g2, hb]; rfl))
  have e1 : sm (fun v => lv2 (fun q => g (q / 2) || (decide (q % 2 = 0) && m (q / 2))) (2 * v) (2 * v + 1) (zn a b 1 v)) N ≤ mn N m := by
    unfold mn
    refine sm_le N (fun v _ _ => ?_)
    rw [lv2_v (R := fun q => g (q / 2) || (decide (q % 2 = 0) && m (q / 2))) (q := 2 * v) (r := 2 * v + 1) (r0 v) (r1 v)]
    have hz : zn a b 1 v ≤ 1 := by unfold zn; split <;> omega
    cases m v <;> cases g v <;> simp <;> omega
  have e2 : sm (fun k => lv2 (fun q => g (q / 2) || (decide (q % 2 = 0) && m (q / 2))) (2 * F k + 1) (2 * T k) (ua Sh k)) n ≤ di n F T Sh a b := by
    unfold di
    refine sm_le n (fun k k0 k1 => ?_)
    rw [lv2_v (R := fun q => g (q / 2) || (decide (q % 2 = 0) && m (q / 2))) (q := 2 * F k + 1) (r := 2 * T k) (r1 (F k)) (r0 (T k))]
    by_cases c1 : Sh k = 0
    · by_cases c2 : F k = a ∧ T k = b
      · have hy : Sh k = 0 ∧ F k = a ∧ T k = b := ⟨c1, c2.1, c2.2⟩
        have : ua Sh k = 1 := by simp [ua, c1]
        rw [if_pos hy, this]
        split <;> omega
      · have hn : ¬ (Sh k = 0 ∧ F k = a ∧ T k = b) := fun q => c2 q.2
        rw [if_neg hn, if_neg]
        · exact Int.le_refl _
        · intro hc
          obtain ⟨d1, d2⟩ := hc
          have d3 : g (T k) = false ∧ m (T k) = false := by simpa using d2
          have := g3 k k0 k1 c1 d1 d3.2 c2
          rw [d3.1] at this
          cases this
    · have : ua Sh k = 0 := by simp [ua, c1]
      rw [this]
      split <;> split <;> omega
  omega
noncomputable def cb (p : Prop) : Bool := @decide p (Classical.propDecidable p)
theorem cb_t {p : Prop} : cb p = true ↔ p := @decide_eq_true_iff p (Classical.propDecidable p)
/-- each of the arcs of c has an owner: there are no more owners than arcs -/
theorem own_le {N : Nat} {c : Int → Bool} {o : Int → Int} : ∀ n : Nat, sm (fun v => if cb (∃ k : Int, 0 ≤ k ∧ k < n ∧ c k = true ∧ o k = v) = true then 1 else 0) N ≤ sm (fun k => if c k = true then 1 else 0) n := by
  intro n
  induction n with
  | zero =>
    refine Int.le_trans (sm_le (g := fun _ => 0) N (fun v _ _ => ?_)) (Int.le_of_eq (sm_zero N))
    by_cases q : cb (∃ k : Int, 0 ≤ k ∧ k < (0 : Nat) ∧ c k = true ∧ o k = v) = true
    · obtain ⟨k, k0, k1, -⟩ := cb_t.mp q
      omega
    · simp only [if_neg q]; exact Int.le_refl _
  | succ n ih =>
    have h1 : sm (fun v => if cb (∃ k : Int, 0 ≤ k ∧ k < (n + 1 : Nat) ∧ c k = true ∧ o k = v) = true then 1 else 0) N ≤ sm (fun v => (if cb (∃ k : Int, 0 ≤ k ∧ k < n ∧ c k = true ∧ o k = v) = true then 1 else 0) + (if o n = v then (if c n = true then 1 else 0) else 0)) N := by
      refine sm_le N (fun v _ _ => ?_)
      by_cases q : ∃ k : Int, 0 ≤ k ∧ k < (n + 1 : Nat) ∧ c k = true ∧ o k = v
      · obtain ⟨k, k0, k1, k2, k3⟩ := q
        by_cases e : k = n
        · subst e
          simp only [if_pos k3, if_pos k2]
          split <;> split <;> omega
        · have : cb (∃ k : Int, 0 ≤ k ∧ k < n ∧ c k = true ∧ o k = v) = true := cb_t.mpr ⟨k, k0, by omega, k2, k3⟩
          simp only [if_pos this]
          split <;> split <;> (try split) <;> omega
      · have : ¬ cb (∃ k : Int, 0 ≤ k ∧ k < (n + 1 : Nat) ∧ c k = true ∧ o k = v) = true := fun h => q (cb_t.mp h)
        simp only [if_neg this]
        split <;> split <;> (try split) <;> omega
    rw [sm_add] at h1
    have h2 : sm (fun v => if o n = v then (if c n = true then 1 else 0) else 0) N ≤ if c n = true then 1 else 0 := by
      by_cases r : 0 ≤ o n ∧ o n < N
      · rw [sm_pick (g := fun _ => if c n = true then 1 else 0) N r.1 r.2]
        exact Int.le_refl _
      · have : sm (fun v => if o n = v then (if c n = true then 1 else 0) else 0) N = 0 := by
          rw [sm_congr (g := fun _ => 0) N (fun v v0 v1 => by
            show (if o n = v then (if c n = true then 1 else 0) else 0) = 0
            rw [if_neg (fun e => r (by omega))]), sm_zero]
        rw [this]
        split <;> omega
    simp only [sm]
    omega
theorem cut1_ge {n N : Nat} {F T Sh x y : Int → Int} {a b kp : Int} (hab : a ≠ b) (hT : ∀ k : Int, 0 ≤ k → k < n → 0 ≤ F k ∧ F k < N ∧ 0 ≤ T k ∧ T k < N) (h : GF n N F T x y a b kp) {R : Int → Bool} (hR : shutR n N F T x y (ua Sh) (zn a b 1) R) (hs : R (2 * a + 1) = true) (hg : R (2 * b) = false) :
    ∃ m g : Int → Bool, m a = false ∧ m b = false ∧ clo n F T Sh a b m g ∧ di n F T Sh a b + mn N m ≤ kp := by
  have e := gf_cutE h hs hg hR.1 hR.2
  -- the arcs that leave R, but those from a to b; and who owns each
  let cr : Int → Bool := fun k => decide (Sh k = 0) && R (2 * F k + 1) && !(R (2 * T k)) && !(decide (F k = a ∧ T k = b))
  let ow : Int → Int := fun k => if T k = b then F k else T k
  let X : Int → Bool := fun v => R (2 * v) && !(R (2 * v + 1))
  let Y : Int → Bool := fun v => cb (∃ k : Int, 0 ≤ k ∧ k < n ∧ cr k = true ∧ ow k = v)
  let m : Int → Bool := fun v => !(decide (v = a)) && !(decide (v = b)) && (X v || Y v)
  let g : Int → Bool := fun v => !(decide (v = b)) && R (2 * v + 1) && (decide (v = a) || !(m v))
  have hma : m a = false := by simp [m]
  have hmb : m b = false := by simp [m]
  refine ⟨m, g, hma, hmb, ⟨by simp [g, hab, hs], by simp [g], ?_⟩, ?_⟩
  · intro k k0 k1 c1 c2 c3 c4
    have c2' : (F k ≠ b ∧ R (2 * F k + 1) = true) ∧ (F k = a ∨ m (F k) = false) := by
      simpa [g] using c2
    obtain ⟨⟨f0, f1⟩, f2⟩ := c2'
    have hcr : R (2 * T k) = false → cr k = true := by
      intro r
      have : ¬ (F k = a ∧ T k = b) := c4
      simp [cr, c1, f1, r]
      omega
    by_cases tb : T k = b
    · exfalso
      have r : R (2 * T k) = false := by rw [tb]; exact hg
      have fa : F k ≠ a := fun q => c4 ⟨q, tb⟩
      have hy : Y (F k) = true := cb_t.mpr ⟨k, k0, k1, hcr r, by simp [ow, tb]⟩
      have hm : m (F k) = true := by simp [m, fa, f0, hy]
      rcases f2 with f2 | f2
      · exact fa f2
      · rw [f2] at hm; cases hm
    · by_cases ta : T k = a
      · simp [g, ta, hab, hs]
      · have hY : R (2 * T k) = true := by
          cases r : R (2 * T k) with
          | true => rfl
          | false =>
            exfalso
            have hy : Y (T k) = true := cb_t.mpr ⟨k, k0, k1, hcr r, by simp [ow, tb]⟩
            have hm : m (T k) = true := by simp [m, ta, tb, hy]
            rw [c3] at hm; cases hm
        have hX : R (2 * T k + 1) = true := by
          cases r : R (2 * T k + 1) with
          | true => rfl
          | false =>
            exfalso
            have hx : X (T k) = true := by simp [X, hY, r]
            have hm : m (T k) = true := by simp [m, ta, tb, hx]
            rw [c3] at hm; cases hm
        show (!(decide (T k = b)) && R (2 * T k + 1) && (decide (T k = a) || !(m (T k)))) = true
        simp [tb, hX, c3]
  · have i1 : mn N m ≤ sm (fun v => lv2 R (2 * v) (2 * v + 1) (zn a b 1 v) + (if Y v = true then 1 else 0)) N := by
      unfold mn
      refine sm_le N (fun v _ _ => ?_)
      show (if m v = true then (1 : Int) else 0) ≤ lv2 R (2 * v) (2 * v + 1) (zn a b 1 v) + (if Y v = true then 1 else 0)
      have hz := lv2_nn (R := R) (q := 2 * v) (r := 2 * v + 1) (c := zn a b 1 v) (by unfold zn; split <;> omega)
      by_cases hm : m v = true
      · rw [if_pos hm]
        have hm' : (v ≠ a ∧ v ≠ b) ∧ (X v = true ∨ Y v = true) := by simpa [m] using hm
        obtain ⟨⟨va, vb⟩, hx | hy⟩ := hm'
        · have hx' : R (2 * v) = true ∧ R (2 * v + 1) = false := by simpa [X] using hx
          have : lv2 R (2 * v) (2 * v + 1) (zn a b 1 v) = 1 := by simp [lv2, zn, hx'.1, hx'.2, va, vb]
          split <;> omega
        · rw [if_pos hy]; omega
      · rw [if_neg hm]; split <;> omega
    rw [sm_add] at i1
    have i2 : sm (fun v => if Y v = true then 1 else 0) N ≤ sm (fun k => if cr k = true then 1 else 0) n := own_le n
    have i3 : sm (fun k => if cr k = true then 1 else 0) n + di n F T Sh a b ≤ sm (fun k => lv2 R (2 * F k + 1) (2 * T k) (ua Sh k)) n := by
      unfold di
      rw [← sm_add]
      refine sm_le n (fun k _ _ => ?_)
      show (if cr k = true then (1 : Int) else 0) + (if Sh k = 0 ∧ F k = a ∧ T k = b then 1 else 0) ≤ lv2 R (2 * F k + 1) (2 * T k) (ua Sh k)
      have hz := lv2_nn (R := R) (q := 2 * F k + 1) (r := 2 * T k) (c := ua Sh k) (by unfold ua; split <;> omega)
      by_cases hd : Sh k = 0 ∧ F k = a ∧ T k = b
      · have hc : ¬ cr k = true := by simp [cr, hd.2.1, hd.2.2]
        rw [if_neg hc, if_pos hd]
        have : lv2 R (2 * F k + 1) (2 * T k) (ua Sh k) = 1 := by rw [hd.2.1, hd.2.2]; simp [lv2, ua, hs, hg, hd.1]
        omega
      · rw [if_neg hd]
        by_cases hc : cr k = true
        · have hc' : ((Sh k = 0 ∧ R (2 * F k + 1) = true) ∧ R (2 * T k) = false) ∧ (¬ F k = a ∨ ¬ T k = b) := by simpa [cr] using hc
          rw [if_pos hc]
          have : lv2 R (2 * F k + 1) (2 * T k) (ua Sh k) = 1 := by simp [lv2, ua, hc'.1.1.1, hc'.1.1.2, hc'.1.2]
          omega
        · rw [if_neg hc]; omega
    omega
end
section
/-! the edges that are made of a graph, and its flow read off them -/
/-- how many of the first n arcs are not shut; how many of the first m nodes are neither a nor b -/
def oa (Sh : Int → Int) : Nat → Nat
  | 0 => 0
  | n + 1 => oa Sh n + (if Sh n = 0 then 1 else 0)
def nv (a b : Int) : Nat → Nat
  | 0 => 0
  | m + 1 => nv a b m + (if (m : Int) = a ∨ (m : Int) = b then 0 else 1)
theorem sm_opn {Sh G : Int → Int} : ∀ n : Nat, sm G (oa Sh n) = sm (fun k => if Sh k = 0 then G (oa Sh k.toNat : Nat) else 0) n
  | 0 => rfl
  | n + 1 => by
    simp only [sm, oa]
    rw [← sm_opn n]
    by_cases c : Sh n = 0
    · rw [if_pos c, if_pos c]
      simp only [sm, Int.toNat_natCast]
    · rw [if_neg c, if_neg c]
      simp
theorem sm_node {a b : Int} {G : Int → Int} (c0 : Nat) : ∀ m : Nat, sm G (c0 + nv a b m) = sm G c0 + sm (fun v => if v = a ∨ v = b then 0 else G (c0 + nv a b v.toNat : Nat)) m
  | 0 => by simp [sm, nv]
  | m + 1 => by
    simp only [sm, nv]
    by_cases c : (m : Int) = a ∨ (m : Int) = b
    · rw [if_pos c, if_pos c, Nat.add_zero, sm_node c0 m]
      omega
    · rw [if_neg c, if_neg c]
      rw [show c0 + (nv a b m + 1) = (c0 + nv a b m) + 1 from rfl]
      simp only [sm]
      rw [sm_node c0 m]
      simp only [Int.toNat_natCast]
      omega
theorem oa_mono {Sh : Int → Int} : ∀ {i j : Nat}, i ≤ j → oa Sh i ≤ oa Sh j := by
  intro i j h
  induction h with
  | refl => exact Nat.le_refl _
  | step _ ih => simp only [oa]; split <;> omega
theorem oa_lt {Sh : Int → Int} {i j : Nat} (h : i < j) (hs : Sh i = 0) : oa Sh i < oa Sh j := by
  have := oa_mono (Sh := Sh) (show i + 1 ≤ j from h)
  simp only [oa] at this
  rw [if_pos hs] at this
  omega
theorem oa_le {Sh : Int → Int} : ∀ n : Nat, oa Sh n ≤ n
  | 0 => Nat.le_refl _
  | n + 1 => by have := oa_le (Sh := Sh) n; simp only [oa]; split <;> omega
theorem nv_mono {a b : Int} : ∀ {i j : Nat}, i ≤ j → nv a b i ≤ nv a b j := by
  intro i j h
  induction h with
  | refl => exact Nat.le_refl _
  | step _ ih => simp only [nv]; split <;> omega
theorem nv_lt {a b : Int} {i j : Nat} (h : i < j) (hs : ¬ ((i : Int) = a ∨ (i : Int) = b)) : nv a b i < nv a b j := by
  have := nv_mono (a := a) (b := b) (show i + 1 ≤ j from h)
  simp only [nv] at this
  rw [if_neg hs] at this
  omega
theorem nv_le {a b : Int} : ∀ n : Nat, nv a b n ≤ n
  | 0 => Nat.le_refl _
  | n + 1 => by have := nv_le (a := a) (b := b) n; simp only [nv]; split <;> omega
/-- the edges as they are made: M pairs -/
def NE (n N : Nat) (F T W Sh : Int → Int) (a b : Int) (et eh ec : Int → Int) : Prop :=
  (∀ k : Int, 0 ≤ k → k < n → Sh k = 0 → et (2 * (oa Sh k.toNat : Nat)) = 2 * F k + 1 ∧ eh (2 * (oa Sh k.toNat : Nat)) = 2 * T k ∧ ec (2 * (oa Sh k.toNat : Nat)) = W k) ∧
  (∀ v : Int, 0 ≤ v → v < N → v ≠ a → v ≠ b → et (2 * (oa Sh n + nv a b v.toNat : Nat)) = 2 * v ∧ eh (2 * (oa Sh n + nv a b v.toNat : Nat)) = 2 * v + 1 ∧ ec (2 * (oa Sh n + nv a b v.toNat : Nat)) = 0) ∧
  pa (oa Sh n + nv a b N) et eh ec
/-- their rooms together -/
def CA (n N : Nat) (Sh : Int → Int) (a b c : Int) (er : Int → Int) : Prop :=
  (∀ k : Int, 0 ≤ k → k < n → Sh k = 0 → er (2 * (oa Sh k.toNat : Nat)) + er (2 * (oa Sh k.toNat : Nat) + 1) = 1) ∧
  (∀ v : Int, 0 ≤ v → v < N → v ≠ a → v ≠ b → er (2 * (oa Sh n + nv a b v.toNat : Nat)) + er (2 * (oa Sh n + nv a b v.toNat : Nat) + 1) = c)
def fx (Sh er : Int → Int) (k : Int) : Int := if Sh k = 0 then er (2 * (oa Sh k.toNat : Nat) + 1) else 0
def fy (n : Nat) (Sh : Int → Int) (a b : Int) (er : Int → Int) (v : Int) : Int := if v = a ∨ v = b then 0 else er (2 * (oa Sh n + nv a b v.toNat : Nat) + 1)
section NET
variable {n N : Nat} {F T W Sh : Int → Int} {a b c : Int} {et eh ec er : Int → Int}
theorem ne_gs (h : NE n N F T W Sh a b et eh ec) (q : Int → Int) : gs (oa Sh n + nv a b N) er (fun e => q (et e) - q (eh e)) = sm (fun k => fx Sh er k * (q (2 * F k + 1) - q (2 * T k))) n + sm (fun v => fy n Sh a b er v * (q (2 * v) - q (2 * v + 1))) N := by
  unfold gs
  rw [sm_node, sm_opn]
  congr 1
  · refine sm_congr n (fun k k0 k1 => ?_)
    unfold fx
    by_cases s0 : Sh k = 0
    · rw [if_pos s0, if_pos s0]
      obtain ⟨h1, h2, -⟩ := h.1 k k0 k1 s0
      show er (2 * (oa Sh k.toNat : Nat) + 1) * (q (et (2 * (oa Sh k.toNat : Nat))) - q (eh (2 * (oa Sh k.toNat : Nat)))) = _
      rw [h1, h2]
    · rw [if_neg s0, if_neg s0, Int.zero_mul]
  · refine sm_congr N (fun v v0 v1 => ?_)
    unfold fy
    by_cases s0 : v = a ∨ v = b
    · rw [if_pos s0, if_pos s0, Int.zero_mul]
    · rw [if_neg s0, if_neg s0]
      obtain ⟨h1, h2, -⟩ := h.2.1 v v0 v1 (fun z => s0 (Or.inl z)) (fun z => s0 (Or.inr z))
      show er (2 * (oa Sh n + nv a b v.toNat : Nat) + 1) * (q (et (2 * (oa Sh n + nv a b v.toNat : Nat))) - q (eh (2 * (oa Sh n + nv a b v.toNat : Nat)))) = _
      rw [h1, h2]
theorem ne_cs (h : NE n N F T W Sh a b et eh ec) : gs (oa Sh n + nv a b N) er ec = sm (fun k => fx Sh er k * W k) n := by
  unfold gs
  rw [sm_node, sm_opn]
  have e2 : sm (fun v => if v = a ∨ v = b then 0 else er (2 * (oa Sh n + nv a b v.toNat : Nat) + 1) * ec (2 * (oa Sh n + nv a b v.toNat : Nat))) N = 0 := by
    refine Eq.trans (sm_congr (g := fun _ => 0) N (fun v v0 v1 => ?_)) (sm_zero N)
    by_cases s0 : v = a ∨ v = b
    · rw [if_pos s0]
    · rw [if_neg s0]
      obtain ⟨-, -, h3⟩ := h.2.1 v v0 v1 (fun z => s0 (Or.inl z)) (fun z => s0 (Or.inr z))
      rw [h3, Int.mul_zero]
  rw [e2, Int.add_zero]
  refine sm_congr n (fun k k0 k1 => ?_)
  unfold fx
  by_cases s0 : Sh k = 0
  · rw [if_pos s0, if_pos s0]
    obtain ⟨-, -, h3⟩ := h.1 k k0 k1 s0
    rw [h3]
  · rw [if_neg s0, if_neg s0, Int.zero_mul]
theorem ne_gf (h : NE n N F T W Sh a b et eh ec) {kp : Int} (hf : ∀ q : Int → Int, gs (oa Sh n + nv a b N) er (fun e => q (et e) - q (eh e)) = kp * (q (2 * a + 1) - q (2 * b))) : GF n N F T (fx Sh er) (fy n Sh a b er) a b kp := fun q => by
  rw [← ne_gs h q]
  exact hf q
theorem ja_in {k : Int} (k0 : 0 ≤ k) (k1 : k < n) (hs : Sh k = 0) : (oa Sh k.toNat : Int) < (oa Sh n + nv a b N : Nat) := by
  have := oa_lt (Sh := Sh) (i := k.toNat) (j := n) (by omega) (by rw [Int.toNat_of_nonneg k0]; exact hs)
  omega
theorem jn_in {v : Int} (v0 : 0 ≤ v) (v1 : v < N) (va : v ≠ a) (vb : v ≠ b) : ((oa Sh n + nv a b v.toNat : Nat) : Int) < (oa Sh n + nv a b N : Nat) := by
  have := nv_lt (a := a) (b := b) (i := v.toNat) (j := N) (by omega) (by rw [Int.toNat_of_nonneg v0]; exact fun z => z.elim va vb)
  omega
theorem ne_bx (hr : ∀ e : Int, 0 ≤ e → e < (2 * (oa Sh n + nv a b N) : Nat) → 0 ≤ er e) (hc : CA n N Sh a b c er) : bn n (fx Sh er) (ua Sh) := fun k k0 k1 => by
  unfold fx ua
  by_cases s0 : Sh k = 0
  · rw [if_pos s0, if_pos s0]
    have h1 := hc.1 k k0 k1 s0
    have h2 := ja_in (a := a) (b := b) (N := N) k0 k1 s0
    have h3 := hr (2 * (oa Sh k.toNat : Nat)) (by omega) (by omega)
    have h4 := hr (2 * (oa Sh k.toNat : Nat) + 1) (by omega) (by omega)
    omega
  · rw [if_neg s0, if_neg s0]; omega
theorem ne_by (hr : ∀ e : Int, 0 ≤ e → e < (2 * (oa Sh n + nv a b N) : Nat) → 0 ≤ er e) (hc : CA n N Sh a b c er) : bn N (fy n Sh a b er) (zn a b c) := fun v v0 v1 => by
  unfold fy zn
  by_cases s0 : v = a ∨ v = b
  · rw [if_pos s0, if_pos s0]; omega
  · rw [if_neg s0, if_neg s0]
    have va : v ≠ a := fun z => s0 (Or.inl z)
    have vb : v ≠ b := fun z => s0 (Or.inr z)
    have h1 := hc.2 v v0 v1 va vb
    have h2 := jn_in (Sh := Sh) (n := n) v0 v1 va vb
    have h3 := hr (2 * (oa Sh n + nv a b v.toNat : Nat)) (by omega) (by omega)
    have h4 := hr (2 * (oa Sh n + nv a b v.toNat : Nat) + 1) (by omega) (by omega)
    omega
theorem ne_po (h : NE n N F T W Sh a b et eh ec) (hc : CA n N Sh a b c er) {p : Int → Int} (hp : ∀ e : Int, 0 ≤ e → e < (2 * (oa Sh n + nv a b N) : Nat) → 0 < er e → p (eh e) ≤ ec e + p (et e)) : PO n N F T W (fx Sh er) (fy n Sh a b er) (ua Sh) (zn a b c) p := by
  refine ⟨fun k k0 k1 => ?_, fun v v0 v1 => ?_⟩
  · unfold fx ua
    by_cases s0 : Sh k = 0
    · rw [if_pos s0, if_pos s0]
      obtain ⟨h1, h2, h3⟩ := h.1 k k0 k1 s0
      have g1 := hc.1 k k0 k1 s0
      have g2 := ja_in (a := a) (b := b) (N := N) k0 k1 s0
      obtain ⟨m1, m2, m3⟩ := h.2.2 (oa Sh k.toNat : Nat) (by omega) g2
      have p1 := hp (2 * (oa Sh k.toNat : Nat)) (by omega) (by omega)
      have p2 := hp (2 * (oa Sh k.toNat : Nat) + 1) (by omega) (by omega)
      rw [m1, m2, m3] at p2
      rw [h1, h2, h3] at p1 p2
      exact ⟨fun z => by have := p1 (by omega); omega, fun z => by have := p2 (by omega); omega⟩
    · rw [if_neg s0, if_neg s0]
      exact ⟨fun z => by omega, fun z => by omega⟩
  · unfold fy zn
    by_cases s0 : v = a ∨ v = b
    · rw [if_pos s0, if_pos s0]
      exact ⟨fun z => by omega, fun z => by omega⟩
    · rw [if_neg s0, if_neg s0]
      have va : v ≠ a := fun z => s0 (Or.inl z)
      have vb : v ≠ b := fun z => s0 (Or.inr z)
      obtain ⟨h1, h2, h3⟩ := h.2.1 v v0 v1 va vb
      have g1 := hc.2 v v0 v1 va vb
      have g2 := jn_in (Sh := Sh) (n := n) v0 v1 va vb
      obtain ⟨m1, m2, m3⟩ := h.2.2 (oa Sh n + nv a b v.toNat : Nat) (by omega) g2
      have p1 := hp (2 * (oa Sh n + nv a b v.toNat : Nat)) (by omega) (by omega)
      have p2 := hp (2 * (oa Sh n + nv a b v.toNat : Nat) + 1) (by omega) (by omega)
      rw [m1, m2, m3] at p2
      rw [h1, h2, h3] at p1 p2
      exact ⟨fun z => by have := p1 (by omega); omega, fun z => by have := p2 (by omega); omega⟩
/-- R leaves no edge with room -/
theorem ne_shut (h : NE n N F T W Sh a b et eh ec) (hr : ∀ e : Int, 0 ≤ e → e < (2 * (oa Sh n + nv a b N) : Nat) → 0 ≤ er e) (hc : CA n N Sh a b c er) {R : Int → Bool} (hR : ∀ e : Int, 0 ≤ e → e < (2 * (oa Sh n + nv a b N) : Nat) → 0 < er e → R (et e) = true → R (eh e) = true) : shutR n N F T (fx Sh er) (fy n Sh a b er) (ua Sh) (zn a b c) R := by
  refine ⟨fun k k0 k1 => ?_, fun v v0 v1 => ?_⟩
  · unfold fx ua
    by_cases s0 : Sh k = 0
    · rw [if_pos s0, if_pos s0]
      obtain ⟨h1, h2, h3⟩ := h.1 k k0 k1 s0
      have g1 := hc.1 k k0 k1 s0
      have g2 := ja_in (a := a) (b := b) (N := N) k0 k1 s0
      obtain ⟨m1, m2, m3⟩ := h.2.2 (oa Sh k.toNat : Nat) (by omega) g2
      have r1 := hr (2 * (oa Sh k.toNat : Nat)) (by omega) (by omega)
      have r2 := hr (2 * (oa Sh k.toNat : Nat) + 1) (by omega) (by omega)
      have p1 := hR (2 * (oa Sh k.toNat : Nat)) (by omega) (by omega)
      have p2 := hR (2 * (oa Sh k.toNat : Nat) + 1) (by omega) (by omega)
      rw [m1, m2] at p2
      rw [h1, h2] at p1 p2
      refine ⟨fun z1 z2 => ?_, fun z1 z2 => ?_⟩
      · refine Classical.byContradiction (fun q => ?_)
        rw [p1 (by omega) z1] at z2; cases z2
      · refine Classical.byContradiction (fun q => ?_)
        rw [p2 (by omega) z2] at z1; cases z1
    · rw [if_neg s0, if_neg s0]
      exact ⟨fun _ _ => rfl, fun _ _ => rfl⟩
  · unfold fy zn
    by_cases s0 : v = a ∨ v = b
    · rw [if_pos s0, if_pos s0]
      exact ⟨fun _ _ => rfl, fun _ _ => rfl⟩
    · rw [if_neg s0, if_neg s0]
      have va : v ≠ a := fun z => s0 (Or.inl z)
      have vb : v ≠ b := fun z => s0 (Or.inr z)
      obtain ⟨h1, h2, h3⟩ := h.2.1 v v0 v1 va vb
      have g1 := hc.2 v v0 v1 va vb
      have g2 := jn_in (Sh := Sh) (n := n) v0 v1 va vb
      obtain ⟨m1, m2, m3⟩ := h.2.2 (oa Sh n + nv a b v.toNat : Nat) (by omega) g2
      have r1 := hr (2 * (oa Sh n + nv a b v.toNat : Nat)) (by omega) (by omega)
      have r2 := hr (2 * (oa Sh n + nv a b v.toNat : Nat) + 1) (by omega) (by omega)
      have p1 := hR (2 * (oa Sh n + nv a b v.toNat : Nat)) (by omega) (by omega)
      have p2 := hR (2 * (oa Sh n + nv a b v.toNat : Nat) + 1) (by omega) (by omega)
      rw [m1, m2] at p2
      rw [h1, h2] at p1 p2
      refine ⟨fun z1 z2 => ?_, fun z1 z2 => ?_⟩
      · refine Classical.byContradiction (fun q => ?_)
        rw [p1 (by omega) z1] at z2; cases z2
      · refine Classical.byContradiction (fun q => ?_)
        rw [p2 (by omega) z2] at z1; cases z1
end NET
end
section
/-! what the flow's cost is: the least weight of paths that are apart -/
def FI (n N : Nat) (F T W Sh : Int → Int) (a b c : Int) (et eh ec er : Int → Int) (kp tot : Int) : Prop :=
  NE n N F T W Sh a b et eh ec ∧ (∀ e : Int, 0 ≤ e → e < (2 * (oa Sh n + nv a b N) : Nat) → 0 ≤ er e) ∧ CA n N Sh a b c er ∧
  (∀ q : Int → Int, gs (oa Sh n + nv a b N) er (fun e => q (et e) - q (eh e)) = kp * (q (2 * a + 1) - q (2 * b))) ∧ gs (oa Sh n + nv a b N) er ec = tot ∧ ∃ p, ed (2 * (oa Sh n + nv a b N)) et eh ec er p
theorem tt_len {f : List Int → Int} (hf : ∀ P, f P ≤ 1) : ∀ L, tt f L ≤ L.length
  | [] => by simp [tt]
  | P :: L => by have := tt_len hf L; have := hf P; simp only [tt, List.length_cons]; omega
theorem tt_none {f : List Int → Int} : ∀ L, (∀ P, P ∈ L → f P = 0) → tt f L = 0
  | [], _ => rfl
  | P :: L, h => by have := tt_none L (fun Q hQ => h Q (List.mem_cons_of_mem _ hQ)); have := h P List.mem_cons_self; simp only [tt]; omega
theorem vq_opn {n : Nat} {F T Sh : Int → Int} {b : Int} : ∀ (P : List Int) (u : Int) (seen : List Int), vq n F T Sh b u seen P → ∀ k, k ∈ P → Sh k = 0 := by
  intro P
  induction P with
  | nil => intro u seen _ k hk; cases hk
  | cons j P ih =>
    intro u seen h k hk
    obtain ⟨a0, a1, a2, a3, a4, a5, a6⟩ := h
    rcases List.mem_cons.mp hk with rfl | hk
    · exact a4
    · exact ih _ _ a6 k hk
theorem da_tt' {f : List Int → List Int} : ∀ (Ps : List (List Int)), (∀ P, P ∈ Ps → (f P).Nodup) → Ps.Pairwise (fun P Q => da (f P) (f Q)) → ∀ k, tt (fun P => ((f P).count k : Nat)) Ps ≤ 1 ∧ ((∀ P, P ∈ Ps → k ∉ f P) → tt (fun P => ((f P).count k : Nat)) Ps = 0) := by
  intro Ps
  induction Ps with
  | nil => intro _ _ k; exact ⟨by simp [tt], fun _ => rfl⟩
  | cons P Ps ih =>
    intro hf h k
    obtain ⟨h1, h2⟩ := List.pairwise_cons.mp h
    obtain ⟨i1, i2⟩ := ih (fun Q hQ => hf Q (List.mem_cons_of_mem _ hQ)) h2 k
    simp only [tt]
    refine ⟨?_, fun hn => ?_⟩
    · by_cases c : k ∈ f P
      · have := i2 (fun Q hQ => h1 Q hQ k c)
        have := List.nodup_iff_count.mp (hf P List.mem_cons_self) k
        omega
      · have : (f P).count k = 0 := List.count_eq_zero.mpr c
        omega
    · have : (f P).count k = 0 := List.count_eq_zero.mpr (hn P List.mem_cons_self)
      have := i2 (fun Q hQ => hn Q (List.mem_cons_of_mem _ hQ))
      omega
theorem tt_len' {f : List Int → Int} : ∀ L, (∀ P, P ∈ L → f P ≤ 1) → tt f L ≤ L.length
  | [], _ => by simp [tt]
  | P :: L, h => by have := tt_len' L (fun Q hQ => h Q (List.mem_cons_of_mem _ hQ)); have := h P List.mem_cons_self; simp only [tt, List.length_cons]; omega
theorem apart_ok {n N : Nat} {F T W Sh : Int → Int} {a b c : Int} {et eh ec er : Int → Int} {cn : Nat} {tot by_ : Int} (hab : a ≠ b) (hW : ∀ k, 0 ≤ W k) (hT : ∀ k : Int, 0 ≤ k → k < n → 0 ≤ T k ∧ T k < N) (h : FI n N F T W Sh a b c et eh ec er cn tot) (h1 : 1 ≤ cn) (hc0 : by_ ≠ 1 → (cn : Int) ≤ c) (hc1 : by_ = 1 → c = 1)
    {L : List (List Int)} (hL : ∀ P, P ∈ L ↔ vq n F T Sh b a [] P) (hs : L.Pairwise (fun P Q => wp W P ≤ wp W Q)) {cf : List Int → List (List Int) → Bool} (hcf : ∀ P u, cf P u = false ↔ ∀ R, R ∈ u → ap T by_ R P) : se (wp W) cf L cn 0 [] (-1) = tot := by
  obtain ⟨f1, f2, f3, f4, f5, p, f6⟩ := h
  have hG := ne_gf f1 f4
  have hbx := ne_bx f2 f3
  have hby := ne_by f2 f3
  have hpo := ne_po f1 f3 f6.2.2
  rw [ne_cs f1] at f5
  have hwp : ∀ P, 0 ≤ wp W P := by
    intro P
    induction P with
    | nil => exact Int.le_refl _
    | cons k P ih => simp only [wp]; have := hW k; omega
  obtain ⟨s0, s1, s2, s3⟩ := se_spec (T := T) (by_ := by_) (w := wp W) hwp hcf L hs cn 0 [] (-1) h1 (Int.le_refl _) (Int.le_refl _)
  generalize se (wp W) cf L cn 0 [] (-1) = r at *
  -- there are such paths, and they weigh no more
  obtain ⟨Ps, p1, p2, p3, p4, p5⟩ := gf_split (Sh := Sh) (W := W) hab hW hT cn (fx Sh er) (fy n Sh a b er) hG (fun k k0 k1 => (hbx k k0 k1).1) (fun v v0 v1 => (hby v v0 v1).1) (fun k k0 k1 hk => by
    refine Classical.byContradiction (fun q => ?_)
    unfold fx at hk; rw [if_neg q] at hk; omega) (by unfold fy; rw [if_pos (Or.inl rfl)])
  have hua : ∀ k, ua Sh k ≤ 1 := fun k => by unfold ua; split <;> omega
  have d1 : Ps.Pairwise (fun P Q => da P Q) := tt_da (f := fun P => P) Ps (fun k => by
    by_cases r0 : 0 ≤ k ∧ k < n
    · have := p3 k r0.1 r0.2; have := hbx k r0.1 r0.2; have := hua k; omega
    · rw [tt_none Ps (fun P hP => by
        have : P.count k = 0 := List.count_eq_zero.mpr (fun hk => r0 (vq_arcs P a [] (p2 P hP) k hk))
        omega)]; omega)
  have d2 : by_ = 1 → Ps.Pairwise (fun P Q => da (inn T P) (inn T Q)) := fun hb1 => tt_da (f := fun P => inn T P) Ps (fun k => by
    by_cases r0 : 0 ≤ k ∧ k < N
    · have := p4 k r0.1 r0.2; have := (hby k r0.1 r0.2).2
      have : zn a b c k ≤ 1 := by unfold zn; rw [hc1 hb1]; split <;> omega
      omega
    · rw [tt_none Ps (fun P hP => by
        have : (inn T P).count k = 0 := List.count_eq_zero.mpr (fun hk => r0 (by
          obtain ⟨j, j1, j2⟩ := inn_mem P k hk
          have := vq_arcs P a [] (p2 P hP) j j1
          rw [← j2]; exact hT j this.1 this.2))
        omega)]; omega)
  have d3 : Ps.Pairwise (ap T by_) := by
    by_cases hb1 : by_ = 1
    · exact (d1.and (d2 hb1)).imp (fun h => ⟨h.1, fun _ => h.2⟩)
    · exact d1.imp (fun h => ⟨h, fun z => absurd z hb1⟩)
  have hnz : ∀ P, P ∈ Ps → P ≠ [] := fun P hP e => by
    have := p2 P hP
    rw [e] at this
    exact hab this
  have hnd : Ps.Nodup := by
    refine List.Pairwise.imp_of_mem (R := fun P Q => da P Q) (fun {P Q} hP _ hd e => ?_) d1
    subst e
    cases P with
    | nil => exact hnz _ hP rfl
    | cons k P => exact hd k List.mem_cons_self List.mem_cons_self
  obtain ⟨Q, q1, q2⟩ := sub_perm L Ps hnd (fun P hP => (hL P).mpr (p2 P hP))
  have q3 : Q.Pairwise (ap T by_) := (q2.pairwise_iff (fun {_ _} h => ap_sym h)).mpr d3
  obtain ⟨u1, u2⟩ := s3 Q q1 (by rw [q2.length_eq, p1]) ⟨(fun _ _ _ hR => by cases hR), q3⟩
  rw [tt_perm q2] at u2
  -- and none such weigh less
  rcases s2 with e | ⟨Q', z1, z2, z3, z4⟩
  · exact absurd e u1
  · have hv : ∀ P, P ∈ Q' → vq n F T Sh b a [] P := fun P hP => (hL P).mp (z1.subset hP)
    have hJ := gf_join (Sh := Sh) (F := F) hab hT Q' hv
    rw [z2] at hJ
    have e1 : Q'.Pairwise (fun P Q => da P Q) := z3.2.imp (fun h => h.1)
    have hn1 : ∀ P, P ∈ Q' → P.Nodup := fun P hP => vq_nodup P a [] (hv P hP)
    have hn2 : ∀ P, P ∈ Q' → (inn T P).Nodup := fun P hP => (vq_inn P a [] (hv P hP)).1
    have hb1 : bn n (fun k => tt (fun P => (P.count k : Nat)) Q') (ua Sh) := fun k k0 k1 => by
      refine ⟨tt_nn (fun P => by omega) Q', ?_⟩
      show tt (fun P => (P.count k : Nat)) Q' ≤ ua Sh k
      by_cases so : Sh k = 0
      · have := (da_tt' (f := fun P => P) Q' hn1 e1 k).1
        unfold ua; rw [if_pos so]; exact this
      · rw [tt_none Q' (fun P hP => by
          have : P.count k = 0 := List.count_eq_zero.mpr (fun hk => so (vq_opn P a [] (hv P hP) k hk))
          omega)]
        unfold ua; rw [if_neg so]; omega
    have hb2 : bn N (fun v => tt (fun P => ((inn T P).count v : Nat)) Q') (zn a b c) := fun v v0 v1 => by
      refine ⟨tt_nn (fun P => by omega) Q', ?_⟩
      show tt (fun P => ((inn T P).count v : Nat)) Q' ≤ zn a b c v
      by_cases so : v = a ∨ v = b
      · rw [tt_none Q' (fun P hP => by
          have : (inn T P).count v = 0 := List.count_eq_zero.mpr (fun hk => by
            obtain ⟨i1, i2, i3⟩ := vq_inn P a [] (hv P hP)
            rcases so with rfl | rfl
            · exact i3 v hk List.mem_cons_self
            · exact i2 hk)
          omega)]
        unfold zn; rw [if_pos so]; omega
      · unfold zn; rw [if_neg so]
        by_cases hby1 : by_ = 1
        · have := (da_tt' (f := fun P => inn T P) Q' hn2 (z3.2.imp (fun h => h.2 hby1)) v).1
          rw [hc1 hby1]; exact this
        · have := hc0 hby1
          have : tt (fun P => ((inn T P).count v : Nat)) Q' ≤ Q'.length := tt_len' Q' (fun P hP => by have := List.nodup_iff_count.mp (hn2 P hP) v; omega)
          omega
    have hop := gf_opt hpo hG hJ hb1 hb2
    rw [tt_wp Q' (fun P hP => vq_arcs P a [] (hv P hP))] at hop
    omega
end
section
/-! the paths from a to b in their order -/
def sp (n : Nat) (F T Sh W : Int → Int) (a b : Int) : List (List Int) := (df n F T Sh b 7 a []).mergeSort (fun P Q => decide (cd W P ≤ cd W Q))
/-- what the graph's numbers are: n arcs, N nodes -/
def gok (n N : Nat) (F T W S2 Sh : Int → Int) : Prop := n ≤ 20 ∧ N ≤ 8 ∧ (∀ k, 0 ≤ F k ∧ F k < 8 ∧ 0 ≤ T k ∧ T k < 8 ∧ 0 ≤ W k ∧ W k ≤ 1000 ∧ 0 ≤ S2 k ∧ S2 k ≤ 1000 ∧ (Sh k = 0 ∨ Sh k = 1)) ∧ ∀ k : Int, 0 ≤ k → k < n → F k < N ∧ T k < N ∧ F k ≠ T k
section SP
variable {n N : Nat} {F T W S2 Sh : Int → Int} {a b : Int}
theorem sp_perm : (sp n F T Sh W a b).Perm (df n F T Sh b 7 a []) := List.mergeSort_perm _ _
theorem sp_sorted : (sp n F T Sh W a b).Pairwise (fun P Q => cd W P ≤ cd W Q) := by
  have := List.pairwise_mergeSort (le := fun P Q => decide (cd W P ≤ cd W Q)) (fun x y z h1 h2 => by
    simp only [decide_eq_true_eq] at *; omega) (fun x y => by
    simp only [Bool.or_eq_true, decide_eq_true_eq]; omega) (df n F T Sh b 7 a [])
  exact this.imp (fun h => by simpa using h)
theorem vq_seven (h : gok n N F T W S2 Sh) (ha : 0 ≤ a ∧ a < N) {P : List Int} (hP : vq n F T Sh b a [] P) : P.length ≤ 7 := by
  have := vq_len (N := N) (fun k k0 k1 => ⟨(h.2.2.1 k).2.2.1, (h.2.2.2 k k0 k1).2.1⟩) P a [] (by simp) (fun v hv => by
    have : v = a := by simpa using hv
    subst this; exact ha) hP
  have := h.2.1
  simp only [List.length_nil] at *
  omega
theorem sp_mem (h : gok n N F T W S2 Sh) (ha : 0 ≤ a ∧ a < N) (P : List Int) : P ∈ sp n F T Sh W a b ↔ vq n F T Sh b a [] P := by
  rw [(sp_perm (n := n) (F := F) (T := T) (Sh := Sh) (W := W) (a := a) (b := b)).mem_iff, df_mem]
  exact ⟨fun q => q.1, fun q => ⟨q, vq_seven h ha q⟩⟩
theorem vq_ok5 (h : gok n N F T W S2 Sh) (ha : 0 ≤ a ∧ a < N) {P : List Int} (hP : vq n F T Sh b a [] P) : ok5 P :=
  ⟨vq_seven h ha hP, fun k hk => by have := vq_arcs P a [] hP k hk; have := h.1; omega⟩
theorem sp_ok5 (h : gok n N F T W S2 Sh) (ha : 0 ≤ a ∧ a < N) {P : List Int} (hP : P ∈ sp n F T Sh W a b) : ok5 P := vq_ok5 h ha ((sp_mem h ha P).mp hP)
theorem sp_len (h : gok n N F T W S2 Sh) (ha : 0 ≤ a ∧ a < N) (hb : 0 ≤ b ∧ b < N) : (sp n F T Sh W a b).length ≤ 1458 := by
  rw [(sp_perm (n := n) (F := F) (T := T) (Sh := Sh) (W := W) (a := a) (b := b)).length_eq]
  have h8 := h.2.1
  exact df_max (fun k => ⟨(h.2.2.1 k).2.2.1, (h.2.2.1 k).2.2.2.1⟩) h.1 hb.1 (by omega) 7 ha.1 (by omega)
theorem sp_w (h : gok n N F T W S2 Sh) (ha : 0 ≤ a ∧ a < N) : (sp n F T Sh W a b).Pairwise (fun P Q => wp W P ≤ wp W Q) := by
  refine List.Pairwise.imp_of_mem (R := fun P Q => cd W P ≤ cd W Q) (fun {P Q} hP hQ hc => ?_) sp_sorted
  have e1 := cd_w (W := W) (sp_ok5 h ha hP)
  have e2 := cd_w (W := W) (sp_ok5 h ha hQ)
  omega
theorem sp_uniq (h : gok n N F T W S2 Sh) (ha : 0 ≤ a ∧ a < N) {R : List (List Int)} (h1 : R.Perm (df n F T Sh b 7 a [])) (h2 : R.Pairwise (fun P Q => cd W P ≤ cd W Q)) : R = sp n F T Sh W a b := by
  have hp := h1.trans (sp_perm (n := n) (F := F) (T := T) (Sh := Sh) (W := W) (a := a) (b := b)).symm
  refine List.Perm.eq_of_pairwise (le := fun P Q => cd W P ≤ cd W Q) (fun P Q hP hQ l1 l2 => ?_) h2 sp_sorted hp
  exact cd_inj (W := W) (sp_ok5 h ha (hp.subset hP)) (sp_ok5 h ha hQ) (by omega)
end SP
end
section
/-! the pairs that are best -/
/-- q betters p -/
def bt2 (q p : Int × Int) : Prop := (q.1 < p.1 ∨ q.2 < p.2) ∧ q.1 ≤ p.1 ∧ q.2 ≤ p.2
def bst (X : List (Int × Int)) (p : Int × Int) : Prop := p ∈ X ∧ ∀ q, q ∈ X → ¬ bt2 q p
/-- one more is offered: the last one first -/
def of1 : List (Int × Int) → Int × Int → List (Int × Int)
  | [], p => [p]
  | q :: B, p => if q.2 ≤ p.2 then q :: B else if q.1 = p.1 then p :: B else p :: q :: B
/-- falling first numbers -/
def fal (B : List (Int × Int)) : Prop := B.Pairwise (fun p q => q.1 < p.1)
def fnt (X B : List (Int × Int)) : Prop := fal B ∧ ∀ p, p ∈ B ↔ bst X p
theorem bst_low {X : List (Int × Int)} : ∀ (k : Nat) (p : Int × Int), p ∈ X → (∀ q, q ∈ X → 0 ≤ q.1 ∧ 0 ≤ q.2) → (p.1 + p.2).toNat ≤ k → ∃ q, bst X q ∧ q.1 ≤ p.1 ∧ q.2 ≤ p.2 := by
  intro k
  induction k with
  | zero =>
    intro p hp hX hk
    refine ⟨p, ⟨hp, fun q hq hb => ?_⟩, Int.le_refl _, Int.le_refl _⟩
    have := hX p hp; have := hX q hq
    obtain ⟨h1, h2, h3⟩ := hb
    omega
  | succ k ih =>
    intro p hp hX hk
    by_cases c : ∃ q, q ∈ X ∧ bt2 q p
    · obtain ⟨q, hq, h1, h2, h3⟩ := c
      have := hX p hp; have := hX q hq
      obtain ⟨r, r1, r2, r3⟩ := ih q hq hX (by omega)
      exact ⟨r, r1, by omega, by omega⟩
    · exact ⟨p, ⟨hp, fun q hq hb => c ⟨q, hq, hb⟩⟩, Int.le_refl _, Int.le_refl _⟩
theorem fnt_nil : fnt [] [] := ⟨List.Pairwise.nil, fun p => ⟨(fun h => by cases h), fun h => h.1⟩⟩
theorem fnt_step {X B : List (Int × Int)} {p : Int × Int} (h : fnt X B) (hX : ∀ q, q ∈ X → 0 ≤ q.1 ∧ 0 ≤ q.2) (hp : 0 ≤ p.1 ∧ 0 ≤ p.2) (hw : ∀ q, q ∈ X → q.1 ≤ p.1) : fnt (X ++ [p]) (of1 B p) := by
  obtain ⟨h1, h2⟩ := h
  have hm : ∀ q, q ∈ X ++ [p] ↔ q ∈ X ∨ q = p := fun q => by simp
  cases B with
  | nil =>
    have he : X = [] := by
      cases X with
      | nil => rfl
      | cons y X =>
        obtain ⟨q, hq, -⟩ := bst_low (y.1 + y.2).toNat y List.mem_cons_self hX (Nat.le_refl _)
        exact absurd ((h2 q).mpr hq) (by simp)
    subst he
    refine ⟨by simp [of1, fal], fun q => ?_⟩
    simp only [of1, List.mem_singleton, bst, List.nil_append]
    constructor
    · rintro rfl
      refine ⟨rfl, fun r hr hb => ?_⟩
      subst hr
      obtain ⟨z, -, -⟩ := hb
      omega
    · exact fun z => z.1
  | cons y B =>
    obtain ⟨f1, f2⟩ := List.pairwise_cons.mp h1
    have hy := (h2 y).mp List.mem_cons_self
    have hyX := hX y hy.1
    have hyw := hw y hy.1
    -- y has the least second number
    have hmin : ∀ q, q ∈ X → y.2 ≤ q.2 := by
      intro q hq
      obtain ⟨r, r1, r2, r3⟩ := bst_low (q.1 + q.2).toNat q hq hX (Nat.le_refl _)
      rcases List.mem_cons.mp ((h2 r).mpr r1) with e | e
      · subst e; exact r3
      · have := f1 r e
        refine Classical.byContradiction (fun z => ?_)
        exact hy.2 r r1.1 ⟨Or.inl this, by omega, by
          refine Classical.byContradiction (fun z2 => ?_)
          exact r1.2 y hy.1 ⟨Or.inr (by omega), by omega, by omega⟩⟩
    show fnt (X ++ [p]) (if y.2 ≤ p.2 then y :: B else if y.1 = p.1 then p :: B else p :: y :: B)
    by_cases c1 : y.2 ≤ p.2
    · rw [if_pos c1]
      refine ⟨h1, fun q => ?_⟩
      rw [h2 q]
      constructor
      · rintro ⟨q1, q2⟩
        refine ⟨(hm q).mpr (Or.inl q1), fun r hr hb => ?_⟩
        rcases (hm r).mp hr with hr | rfl
        · exact q2 r hr hb
        · obtain ⟨b1, b2, b3⟩ := hb
          have := hw q q1
          exact q2 y hy.1 ⟨Or.inr (by omega), by omega, by omega⟩
      · rintro ⟨q1, q2⟩
        have q3 : ∀ r, r ∈ X → ¬ bt2 r q := fun r hr => q2 r ((hm r).mpr (Or.inl hr))
        rcases (hm q).mp q1 with q1 | rfl
        · exact ⟨q1, q3⟩
        · refine ⟨?_, q3⟩
          have : y = q := by
            have hn := q3 y hy.1
            refine Prod.ext ?_ ?_
            · refine Classical.byContradiction (fun z => hn ⟨Or.inl (by omega), hyw, c1⟩)
            · refine Classical.byContradiction (fun z => hn ⟨Or.inr (by omega), hyw, c1⟩)
          rw [← this]; exact hy.1
    · rw [if_neg c1]
      have hnew : bst (X ++ [p]) p := ⟨(hm p).mpr (Or.inr rfl), fun r hr hb => by
        obtain ⟨b1, b2, b3⟩ := hb
        rcases (hm r).mp hr with hr | rfl
        · have := hmin r hr; omega
        · omega⟩
      have hold : ∀ q, q ∈ X → q.1 < p.1 → (bst (X ++ [p]) q ↔ bst X q) := by
        intro q hq hlt
        constructor
        · rintro ⟨-, q2⟩
          exact ⟨hq, fun r hr => q2 r ((hm r).mpr (Or.inl hr))⟩
        · rintro ⟨-, q2⟩
          refine ⟨(hm q).mpr (Or.inl hq), fun r hr hb => ?_⟩
          rcases (hm r).mp hr with hr | rfl
          · exact q2 r hr hb
          · obtain ⟨b1, b2, b3⟩ := hb; omega
      have hsame : ∀ q, q ∈ X → q.1 = p.1 → ¬ bst (X ++ [p]) q := by
        intro q hq he hb
        have := hmin q hq
        exact hb.2 p ((hm p).mpr (Or.inr rfl)) ⟨Or.inr (by omega), by omega, by omega⟩
      by_cases c2 : y.1 = p.1
      · rw [if_pos c2]
        refine ⟨List.Pairwise.cons (fun q hq => by have := f1 q hq; omega) f2, fun q => ?_⟩
        constructor
        · intro hq
          rcases List.mem_cons.mp hq with rfl | hq
          · exact hnew
          · have hqX := (h2 q).mp (List.mem_cons_of_mem _ hq)
            exact (hold q hqX.1 (by have := f1 q hq; omega)).mpr hqX
        · intro hq
          rcases (hm q).mp hq.1 with hqX | rfl
          · have hle := hw q hqX
            by_cases e : q.1 = p.1
            · exact absurd hq (hsame q hqX e)
            · have := (h2 q).mpr ((hold q hqX (by omega)).mp hq)
              rcases List.mem_cons.mp this with rfl | this
              · exact absurd c2 e
              · exact List.mem_cons_of_mem _ this
          · exact List.mem_cons_self
      · rw [if_neg c2]
        refine ⟨List.Pairwise.cons (fun q hq => ?_) h1, fun q => ?_⟩
        · rcases List.mem_cons.mp hq with rfl | hq
          · omega
          · have := f1 q hq; omega
        · constructor
          · intro hq
            rcases List.mem_cons.mp hq with rfl | hq
            · exact hnew
            · have hqX := (h2 q).mp hq
              refine (hold q hqX.1 ?_).mpr hqX
              rcases List.mem_cons.mp hq with rfl | hq
              · omega
              · have := f1 q hq; omega
          · intro hq
            rcases (hm q).mp hq.1 with hqX | rfl
            · have hle := hw q hqX
              by_cases e : q.1 = p.1
              · exact absurd hq (hsame q hqX e)
              · exact List.mem_cons_of_mem _ ((h2 q).mpr ((hold q hqX (by omega)).mp hq))
            · exact List.mem_cons_self
theorem fal_nodup {B : List (Int × Int)} (h : fal B) : B.Nodup := h.imp (fun {p q} hlt e => by subst e; omega)
theorem fnt_uniq {X B B' : List (Int × Int)} (h : fnt X B) (h' : fnt X B') : B = B' := by
  refine List.Perm.eq_of_pairwise (le := fun (p q : Int × Int) => q.1 < p.1) (fun p q _ _ l1 l2 => by omega) h.1 h'.1 ?_
  exact (List.perm_ext_iff_of_nodup (fal_nodup h.1) (fal_nodup h'.1)).mpr (fun p => by rw [h.2, h'.2])
end
section
/-! bits of numbers -/
theorem bi_or (a b : Nat) : nI a ||| nI b = nI (a ||| b) := by
  apply Int32.toBitVec_inj.1
  show BitVec.ofNat 32 a ||| BitVec.ofNat 32 b = BitVec.ofNat 32 (a ||| b)
  apply BitVec.eq_of_getLsbD_eq
  intro i hi
  simp [hi]
theorem bi_and (a b : Nat) : nI a &&& nI b = nI (a &&& b) := by
  apply Int32.toBitVec_inj.1
  show BitVec.ofNat 32 a &&& BitVec.ofNat 32 b = BitVec.ofNat 32 (a &&& b)
  apply BitVec.eq_of_getLsbD_eq
  intro i hi
  simp [hi]
theorem bi_clr (a b : Nat) : nI a &&& (nI b ^^^ (-1)) = nI (a ^^^ (a &&& b)) := by
  apply Int32.toBitVec_inj.1
  show BitVec.ofNat 32 a &&& (BitVec.ofNat 32 b ^^^ BitVec.allOnes 32) = BitVec.ofNat 32 (a ^^^ (a &&& b))
  apply BitVec.eq_of_getLsbD_eq
  intro i hi
  simp only [BitVec.getLsbD_and, BitVec.getLsbD_xor, BitVec.getLsbD_allOnes, BitVec.getLsbD_ofNat, hi, decide_true, Bool.true_and, Nat.testBit_xor, Nat.testBit_and]
  cases a.testBit i <;> cases b.testBit i <;> rfl
theorem bi_shl1 : ∀ k, k < 31 → (nI 1 <<< (nI k &&& 31)) = nI (2 ^ k) := by decide +kernel
theorem bi_sm : ∀ k, k < 32 → (((nI k &&& 31).toBitVec.smod 32).toNat) = k := by decide +kernel
theorem bi_shr {a k : Nat} (ha : a < 2 ^ 31) (hk : k < 32) : nI a >>> (nI k &&& 31) = nI (a / 2 ^ k) := pk_shrN ha _ k (bi_sm k hk)
theorem bi_bit {a k : Nat} (ha : a < 2 ^ 31) (hk : k < 32) : (nI a >>> (nI k &&& 31)) &&& nI 1 = nI (if a.testBit k then 1 else 0) := by
  rw [bi_shr ha hk, bi_and, Nat.and_one_is_mod, Nat.testBit_eq_decide_div_mod_eq]
  congr 1
  have := Nat.mod_two_eq_zero_or_one (a / 2 ^ k)
  rcases this with h | h <;> simp [h]
theorem bl_c : ∀ k, k < 64 → ((nI k).toInt64 &&& 63) = lN k := by decide +kernel
theorem bl_sm : ∀ k, k < 64 → (BitVec.ofNat 64 k).smod 64 = BitVec.ofNat 64 k := by decide +kernel
theorem bl_shl (n : Nat) {k : Nat} (hk : k < 64) : lN n <<< ((nI k).toInt64 &&& 63) = lN (n * 2 ^ k) := by
  rw [bl_c k hk]
  apply Int64.toBitVec_inj.mp
  rw [Int64.toBitVec_shiftLeft]
  show BitVec.ofNat 64 n <<< ((BitVec.ofNat 64 k).smod 64) = BitVec.ofNat 64 (n * 2 ^ k)
  rw [bl_sm k hk]
  apply BitVec.eq_of_toNat_eq
  rw [BitVec.shiftLeft_eq', BitVec.toNat_shiftLeft, BitVec.toNat_ofNat, BitVec.toNat_ofNat, BitVec.toNat_ofNat, Nat.mod_eq_of_lt (show k < 2 ^ 64 by omega), Nat.shiftLeft_eq, Nat.mul_mod, Nat.mod_mod, ← Nat.mul_mod]
theorem bl_u {n : Nat} (h : n < 2 ^ 64) : (UInt64.ofNat n).toNat = n := Nat.mod_eq_of_lt h
theorem bl_or {k a b : Nat} (ha : a < 2 ^ k) (h : b * 2 ^ k + a < 2 ^ 64) : lN (b * 2 ^ k) ||| lN a = lN (b * 2 ^ k + a) := by
  have h1 : b * 2 ^ k ||| a = b * 2 ^ k + a := by rw [← Nat.shiftLeft_eq, Nat.shiftLeft_add_eq_or_of_lt ha]
  have h3 : UInt64.ofNat (b * 2 ^ k) ||| UInt64.ofNat a = UInt64.ofNat (b * 2 ^ k + a) := UInt64.toNat_inj.mp (by rw [UInt64.toNat_or, bl_u (by omega), bl_u (by omega), bl_u h, h1])
  exact congrArg UInt64.toInt64 h3
theorem bl_shr {a k : Nat} (ha : a < 2 ^ 62) (hk : k < 64) : lN a >>> ((nI k).toInt64 &&& 63) = lN (a / 2 ^ k) := by
  rw [bl_c k hk]
  apply Int64.toInt_inj.mp
  rw [pk_lT (by have := Nat.div_le_self a (2 ^ k); omega)]
  have e : (lN a >>> lN k).toInt = (lN a).toInt >>> k := by
    rw [← Int64.toInt_toBitVec, Int64.toBitVec_shiftRight]
    show (BitVec.sshiftRight' (lN a).toBitVec ((BitVec.ofNat 64 k).smod 64)).toInt = _
    rw [bl_sm k hk]
    simp [BitVec.sshiftRight', BitVec.toInt_sshiftRight, Nat.mod_eq_of_lt (show k < 18446744073709551616 by omega)]
  rw [e, pk_lT (by omega), Int.shiftRight_eq_div_pow]
  simp
theorem bl_and {a b : Nat} (ha : a < 2 ^ 64) (hb : b < 2 ^ 64) : lN a &&& lN b = lN (a &&& b) := by
  have h : UInt64.ofNat a &&& UInt64.ofNat b = UInt64.ofNat (a &&& b) := UInt64.toNat_inj.mp (by rw [UInt64.toNat_and, bl_u ha, bl_u hb, bl_u (Nat.and_lt_two_pow a hb)])
  exact congrArg UInt64.toInt64 h
end
section
/-! one goal a point: the machine at pc with the locals lv and the stack st, over every heap that holds the cells w x -/
def iI (z : Int) : Int32 := Int32.ofInt z
def lI (z : Int) : Int64 := Int64.ofInt z
abbrev r32 (z : Int) : Prop := -2147483648 ≤ z ∧ z < 2147483648
abbrev r64 (z : Int) : Prop := -9223372036854775808 ≤ z ∧ z < 9223372036854775808
theorem iI_t {z : Int} (h : r32 z) : (iI z).toInt = z := Int32.toInt_ofInt_of_le (by omega) (by omega)
theorem lI_t {z : Int} (h : r64 z) : (lI z).toInt = z := Int64.toInt_ofInt_of_le (by omega) (by omega)
theorem iI_of (x : Int32) : ∃ z, r32 z ∧ x = iI z := ⟨x.toInt, ⟨x.le_toInt, by have := x.toInt_lt; omega⟩, (Int32.ofInt_toInt x).symm⟩
theorem iI_lt {a b : Int} (ha : r32 a) (hb : r32 b) : iI a < iI b ↔ a < b := by rw [Int32.lt_iff_toInt_lt, iI_t ha, iI_t hb]
theorem iI_le {a b : Int} (ha : r32 a) (hb : r32 b) : iI a ≤ iI b ↔ a ≤ b := by rw [Int32.le_iff_toInt_le, iI_t ha, iI_t hb]
theorem iI_eq {a b : Int} (ha : r32 a) (hb : r32 b) : iI a = iI b ↔ a = b := by rw [← Int32.toInt_inj, iI_t ha, iI_t hb]
theorem lI_lt {a b : Int} (ha : r64 a) (hb : r64 b) : lI a < lI b ↔ a < b := by rw [Int64.lt_iff_toInt_lt, lI_t ha, lI_t hb]
theorem iI_nI (n : Nat) : iI (n : Int) = nI n := Int32.ofInt_eq_ofNat
theorem iI_in {z : Int} {n : Nat} (h0 : 0 ≤ z) (h1 : z < n) (hn : n < 2147483648) : vp_in (iI z) n := by
  rw [vp_in_iff, iI_t ⟨by omega, by omega⟩]
  omega
theorem iI_cl {z : Int} (h0 : 0 ≤ z) (h1 : z < 2147483648) : (iI z).toNatClampNeg = z.toNat := Int32.toNatClampNeg_ofInt_of_le (by omega) (by omega)
def lk : List (Nat × Value) → Nat → Option Value
  | [], _ => none
  | q :: l, i => if q.1 = i then some q.2 else lk l i
theorem lk_at {ls : Array Slot} {nL i : Nat} {v : Value} : ∀ {lv : List (Nat × Value)}, (∀ q ∈ lv, ls[q.1]? = some (.val q.2)) → lk lv i = some v → ls[i]? = some (.val v)
  | [], _, h => by cases h
  | q :: l, hl, h => by
    unfold lk at h
    split at h
    · next e =>
      cases h
      rw [← e]
      exact hl q List.mem_cons_self
    · exact lk_at (nL := nL) (fun r hr => hl r (List.mem_cons_of_mem _ hr)) h
def CX (p : Program) (s : State) (m : MethodId) (args : Array Value) (c : Code) (cc : ByteArray) (nL : Nat) (own : String) (Ts : List Cond) (D : va_G) (cl : List vw_C) (tys : List (ClassId × FieldType)) : Prop :=
  p.tables.exec = Jvm.exec ∧ c.code = cc ∧ c.maxLocals = nL ∧ s.vm.findClass own = some m.cls ∧ (∀ w ∈ Ts, w.before args s = true) ∧ va_K D cl tys s ∧ NW s
def GG {τ : Type} (p : Program) (l : Launch) (e : Env) (R : Room) (s : State) (m : MethodId) (args : Array Value) (below : List Frame) (meth : Method) (c : Code) (D : va_G) (cl : List vw_C) (A : Nat → Prop) (nL nc ns : Nat) (Q : State → Prop) (w : τ → va_W) (x : τ) (lv : List (Nat × Value)) (pc : Nat) (st : List Value) : Prop :=
  ∀ (H : Heap) (locs : List Loc) (ls : Array Slot), va_P D cl (w x) H → va_D A (w x) → va_S A s.heap H locs → lv_has ls nL lv → W p l e R s m args below meth c H locs nc ns Q (F0 m pc ls st)
section GR
variable {τ : Type} {p : Program} {l : Launch} {e : Env} {R : Room} {s : State} {m : MethodId} {args : Array Value} {below : List Frame} {meth : Method} {c : Code} {D : va_G} {cl : List vw_C} {tys : List (ClassId × FieldType)} {A : Nat → Prop} {nL nc ns : Nat} {Q : State → Prop} {w : τ → va_W} {x : τ} {cc : ByteArray} {own : String} {Ts : List Cond} {lv lv' : List (Nat × Value)} {pc n : Nat} {st : List Value}
theorem g_iconst (C : CX p s m args c cc nL own Ts D cl tys) {j z : Int} (hd : decode cc pc = .ok (.iconst j, 1)) (hn : pc + 1 = n) (hz : iI j = iI z) (k : GG p l e R s m args below meth c D cl A nL nc ns Q w x lv n (.int (iI z) :: st)) : GG p l e R s m args below meth c D cl A nL nc ns Q w x lv pc st :=
  fun H locs ls hP hD hS hl => by subst hn; exact lv_iconst C.1 C.2.1 hd hz (k H locs ls hP hD hS hl)
theorem g_bipush (C : CX p s m args c cc nL own Ts D cl tys) {j z : Int} (hd : decode cc pc = .ok (.bipush j, 2)) (hn : pc + 2 = n) (hz : (Int8.ofInt j).toInt32 = iI z) (k : GG p l e R s m args below meth c D cl A nL nc ns Q w x lv n (.int (iI z) :: st)) : GG p l e R s m args below meth c D cl A nL nc ns Q w x lv pc st :=
  fun H locs ls hP hD hS hl => by subst hn; exact lv_bipush C.1 C.2.1 hd hz (k H locs ls hP hD hS hl)
theorem g_sipush (C : CX p s m args c cc nL own Ts D cl tys) {j z : Int} (hd : decode cc pc = .ok (.sipush j, 3)) (hn : pc + 3 = n) (hz : (Int16.ofInt j).toInt32 = iI z) (k : GG p l e R s m args below meth c D cl A nL nc ns Q w x lv n (.int (iI z) :: st)) : GG p l e R s m args below meth c D cl A nL nc ns Q w x lv pc st :=
  fun H locs ls hP hD hS hl => by subst hn; exact lv_sipush C.1 C.2.1 hd hz (k H locs ls hP hD hS hl)
theorem g_ldc (C : CX p s m args c cc nL own Ts D cl tys) {index : Nat} {z : Int} (hc : Jvm.Cond.constant own index (iI z) ∈ Ts) (hd : decode cc pc = .ok (.ldc index, 2)) (hn : pc + 2 = n) (k : GG p l e R s m args below meth c D cl A nL nc ns Q w x lv n (.int (iI z) :: st)) : GG p l e R s m args below meth c D cl A nL nc ns Q w x lv pc st :=
  fun H locs ls hP hD hS hl => by subst hn; exact lv_ldc C.1 C.2.1 C.2.2.2.1 (C.2.2.2.2.1 _ hc) hd (k H locs ls hP hD hS hl)
theorem g_lconst (C : CX p s m args c cc nL own Ts D cl tys) {j : Fin 2} {z : Int} (hd : decode cc pc = .ok (.lconst j, 1)) (hn : pc + 1 = n) (hz : Int64.ofNat (j : Nat) = lI z) (k : GG p l e R s m args below meth c D cl A nL nc ns Q w x lv n (.long (lI z) :: st)) : GG p l e R s m args below meth c D cl A nL nc ns Q w x lv pc st :=
  fun H locs ls hP hD hS hl => by subst hn; exact lv_lconst C.1 C.2.1 hd hz (k H locs ls hP hD hS hl)
theorem g_ldc2 (C : CX p s m args c cc nL own Ts D cl tys) {index : Nat} {z : Int} (hc : Jvm.Cond.constantLong own index (lI z) ∈ Ts) (hd : decode cc pc = .ok (.ldc2_w index, 3)) (hn : pc + 3 = n) (k : GG p l e R s m args below meth c D cl A nL nc ns Q w x lv n (.long (lI z) :: st)) : GG p l e R s m args below meth c D cl A nL nc ns Q w x lv pc st :=
  fun H locs ls hP hD hS hl => by subst hn; exact lv_ldc2 C.1 C.2.1 C.2.2.2.1 (C.2.2.2.2.1 _ hc) hd (k H locs ls hP hD hS hl)
theorem g_iload_n (C : CX p s m args c cc nL own Ts D cl tys) {j : Fin 4} {y : Int32} (hd : decode cc pc = .ok (.iload_n j, 1)) (hk : lk lv (j : Nat) = some (.int y)) (hn : pc + 1 = n) (k : GG p l e R s m args below meth c D cl A nL nc ns Q w x lv n (.int y :: st)) : GG p l e R s m args below meth c D cl A nL nc ns Q w x lv pc st :=
  fun H locs ls hP hD hS hl => by subst hn; exact lv_iload_n C.1 C.2.1 hd rfl (lk_at (nL := nL) hl.2.2 hk) (k H locs ls hP hD hS hl)
theorem g_iload (C : CX p s m args c cc nL own Ts D cl tys) {j : Nat} {y : Int32} (hd : decode cc pc = .ok (.iload j, 2)) (hk : lk lv j = some (.int y)) (hn : pc + 2 = n) (k : GG p l e R s m args below meth c D cl A nL nc ns Q w x lv n (.int y :: st)) : GG p l e R s m args below meth c D cl A nL nc ns Q w x lv pc st :=
  fun H locs ls hP hD hS hl => by subst hn; exact lv_iload C.1 C.2.1 hd (lk_at (nL := nL) hl.2.2 hk) (k H locs ls hP hD hS hl)
theorem g_lload_n (C : CX p s m args c cc nL own Ts D cl tys) {j : Fin 4} {y : Int64} (hd : decode cc pc = .ok (.lload_n j, 1)) (hk : lk lv (j : Nat) = some (.long y)) (hn : pc + 1 = n) (k : GG p l e R s m args below meth c D cl A nL nc ns Q w x lv n (.long y :: st)) : GG p l e R s m args below meth c D cl A nL nc ns Q w x lv pc st :=
  fun H locs ls hP hD hS hl => by subst hn; exact lv_lload_n C.1 C.2.1 hd rfl (lk_at (nL := nL) hl.2.2 hk) (k H locs ls hP hD hS hl)
theorem g_lload (C : CX p s m args c cc nL own Ts D cl tys) {j : Nat} {y : Int64} (hd : decode cc pc = .ok (.lload j, 2)) (hk : lk lv j = some (.long y)) (hn : pc + 2 = n) (k : GG p l e R s m args below meth c D cl A nL nc ns Q w x lv n (.long y :: st)) : GG p l e R s m args below meth c D cl A nL nc ns Q w x lv pc st :=
  fun H locs ls hP hD hS hl => by subst hn; exact lv_lload C.1 C.2.1 hd (lk_at (nL := nL) hl.2.2 hk) (k H locs ls hP hD hS hl)
theorem g_aload_n (C : CX p s m args c cc nL own Ts D cl tys) {j : Fin 4} {y : Nat} (hd : decode cc pc = .ok (.aload_n j, 1)) (hk : lk lv (j : Nat) = some (.ref y)) (hn : pc + 1 = n) (k : GG p l e R s m args below meth c D cl A nL nc ns Q w x lv n (.ref y :: st)) : GG p l e R s m args below meth c D cl A nL nc ns Q w x lv pc st :=
  fun H locs ls hP hD hS hl => by subst hn; exact lv_aload_n C.1 C.2.1 hd rfl (lk_at (nL := nL) hl.2.2 hk) (k H locs ls hP hD hS hl)
theorem g_aload (C : CX p s m args c cc nL own Ts D cl tys) {j : Nat} {y : Nat} (hd : decode cc pc = .ok (.aload j, 2)) (hk : lk lv j = some (.ref y)) (hn : pc + 2 = n) (k : GG p l e R s m args below meth c D cl A nL nc ns Q w x lv n (.ref y :: st)) : GG p l e R s m args below meth c D cl A nL nc ns Q w x lv pc st :=
  fun H locs ls hP hD hS hl => by subst hn; exact lv_aload C.1 C.2.1 hd (lk_at (nL := nL) hl.2.2 hk) (k H locs ls hP hD hS hl)
theorem g_istore_n (C : CX p s m args c cc nL own Ts D cl tys) {j : Fin 4} {y : Int32} (hd : decode cc pc = .ok (.istore_n j, 1)) (hj : (j : Nat) < nL) (hs : ((j : Nat), Value.int y) :: lv.filter (fun q => !(q.1 == (j : Nat)) && !(q.1 + 1 == (j : Nat) && q.2.category == 2)) = lv') (hn : pc + 1 = n) (k : GG p l e R s m args below meth c D cl A nL nc ns Q w x lv' n st) : GG p l e R s m args below meth c D cl A nL nc ns Q w x lv pc (.int y :: st) :=
  fun H locs ls hP hD hS hl => by subst hn; exact lv_istore_n C.1 C.2.1 hd rfl hl hj hs (fun ls' hl' => k H locs ls' hP hD hS hl')
theorem g_istore (C : CX p s m args c cc nL own Ts D cl tys) {j : Nat} {y : Int32} (hd : decode cc pc = .ok (.istore j, 2)) (hj : j < nL) (hs : (j, Value.int y) :: lv.filter (fun q => !(q.1 == j) && !(q.1 + 1 == j && q.2.category == 2)) = lv') (hn : pc + 2 = n) (k : GG p l e R s m args below meth c D cl A nL nc ns Q w x lv' n st) : GG p l e R s m args below meth c D cl A nL nc ns Q w x lv pc (.int y :: st) :=
  fun H locs ls hP hD hS hl => by subst hn; exact lv_istore C.1 C.2.1 hd hl hj hs (fun ls' hl' => k H locs ls' hP hD hS hl')
theorem g_lstore_n (C : CX p s m args c cc nL own Ts D cl tys) {j : Fin 4} {y : Int64} (hd : decode cc pc = .ok (.lstore_n j, 1)) (hj : (j : Nat) + 1 < nL) (hs : ((j : Nat), Value.long y) :: lv.filter (fun q => !(q.1 == (j : Nat)) && (!(q.1 == (j : Nat) + 1) && !(q.1 + 1 == (j : Nat) && q.2.category == 2))) = lv') (hn : pc + 1 = n) (k : GG p l e R s m args below meth c D cl A nL nc ns Q w x lv' n st) : GG p l e R s m args below meth c D cl A nL nc ns Q w x lv pc (.long y :: st) :=
  fun H locs ls hP hD hS hl => by subst hn; exact lv_lstore_n C.1 C.2.1 hd rfl hl hj hs (fun ls' hl' => k H locs ls' hP hD hS hl')
theorem g_lstore (C : CX p s m args c cc nL own Ts D cl tys) {j : Nat} {y : Int64} (hd : decode cc pc = .ok (.lstore j, 2)) (hj : j + 1 < nL) (hs : (j, Value.long y) :: lv.filter (fun q => !(q.1 == j) && (!(q.1 == j + 1) && !(q.1 + 1 == j && q.2.category == 2))) = lv') (hn : pc + 2 = n) (k : GG p l e R s m args below meth c D cl A nL nc ns Q w x lv' n st) : GG p l e R s m args below meth c D cl A nL nc ns Q w x lv pc (.long y :: st) :=
  fun H locs ls hP hD hS hl => by subst hn; exact lv_lstore C.1 C.2.1 hd hl hj hs (fun ls' hl' => k H locs ls' hP hD hS hl')
theorem g_astore_n (C : CX p s m args c cc nL own Ts D cl tys) {j : Fin 4} {y : Nat} (hd : decode cc pc = .ok (.astore_n j, 1)) (hj : (j : Nat) < nL) (hs : ((j : Nat), Value.ref y) :: lv.filter (fun q => !(q.1 == (j : Nat)) && !(q.1 + 1 == (j : Nat) && q.2.category == 2)) = lv') (hn : pc + 1 = n) (k : GG p l e R s m args below meth c D cl A nL nc ns Q w x lv' n st) : GG p l e R s m args below meth c D cl A nL nc ns Q w x lv pc (.ref y :: st) :=
  fun H locs ls hP hD hS hl => by subst hn; exact lv_astore_n C.1 C.2.1 hd rfl hl hj hs (fun ls' hl' => k H locs ls' hP hD hS hl')
theorem g_astore (C : CX p s m args c cc nL own Ts D cl tys) {j : Nat} {y : Nat} (hd : decode cc pc = .ok (.astore j, 2)) (hj : j < nL) (hs : (j, Value.ref y) :: lv.filter (fun q => !(q.1 == j) && !(q.1 + 1 == j && q.2.category == 2)) = lv') (hn : pc + 2 = n) (k : GG p l e R s m args below meth c D cl A nL nc ns Q w x lv' n st) : GG p l e R s m args below meth c D cl A nL nc ns Q w x lv pc (.ref y :: st) :=
  fun H locs ls hP hD hS hl => by subst hn; exact lv_astore C.1 C.2.1 hd hl hj hs (fun ls' hl' => k H locs ls' hP hD hS hl')
theorem g_iinc (C : CX p s m args c cc nL own Ts D cl tys) {j q : Nat} {a z : Int} {y : Int} (hd : decode cc pc = .ok (.iinc j a, 3)) (hk : lv[q]? = some (j, .int (iI y))) (hz : y + a = z) (hj : j < nL) (hs : (j, Value.int (iI z)) :: lv.filter (fun q => !(q.1 == j) && !(q.1 + 1 == j && q.2.category == 2)) = lv') (hn : pc + 3 = n) (k : GG p l e R s m args below meth c D cl A nL nc ns Q w x lv' n st) : GG p l e R s m args below meth c D cl A nL nc ns Q w x lv pc st :=
  fun H locs ls hP hD hS hl => by subst hn; subst hz; exact lv_iinc C.1 C.2.1 hd hl hk (Int32.ofInt_add _ _).symm hj hs (fun ls' hl' => k H locs ls' hP hD hS hl')
theorem g_iadd (C : CX p s m args c cc nL own Ts D cl tys) {a b z : Int} (hd : decode cc pc = .ok (.iadd, 1)) (hz : a + b = z) (hn : pc + 1 = n) (k : GG p l e R s m args below meth c D cl A nL nc ns Q w x lv n (.int (iI z) :: st)) : GG p l e R s m args below meth c D cl A nL nc ns Q w x lv pc (.int (iI b) :: .int (iI a) :: st) :=
  fun H locs ls hP hD hS hl => by
    subst hn; subst hz
    refine lv_iadd C.1 C.2.1 hd ?_
    have h := k H locs ls hP hD hS hl
    unfold iI at h ⊢
    rw [Int32.ofInt_add] at h
    exact h
theorem g_isub (C : CX p s m args c cc nL own Ts D cl tys) {a b z : Int} (hd : decode cc pc = .ok (.isub, 1)) (hz : a - b = z) (hn : pc + 1 = n) (k : GG p l e R s m args below meth c D cl A nL nc ns Q w x lv n (.int (iI z) :: st)) : GG p l e R s m args below meth c D cl A nL nc ns Q w x lv pc (.int (iI b) :: .int (iI a) :: st) :=
  fun H locs ls hP hD hS hl => by
    subst hn; subst hz
    refine lv_isub C.1 C.2.1 hd ?_
    have h := k H locs ls hP hD hS hl
    unfold iI at h ⊢
    rw [Int32.ofInt_sub] at h
    exact h
theorem g_imul (C : CX p s m args c cc nL own Ts D cl tys) {a b z : Int} (hd : decode cc pc = .ok (.imul, 1)) (hz : a * b = z) (hn : pc + 1 = n) (k : GG p l e R s m args below meth c D cl A nL nc ns Q w x lv n (.int (iI z) :: st)) : GG p l e R s m args below meth c D cl A nL nc ns Q w x lv pc (.int (iI b) :: .int (iI a) :: st) :=
  fun H locs ls hP hD hS hl => by
    subst hn; subst hz
    refine lv_imul C.1 C.2.1 hd ?_
    have h := k H locs ls hP hD hS hl
    unfold iI at h ⊢
    rw [Int32.ofInt_mul] at h
    exact h
theorem g_ineg (C : CX p s m args c cc nL own Ts D cl tys) {a z : Int} (hd : decode cc pc = .ok (.ineg, 1)) (hz : -a = z) (hn : pc + 1 = n) (k : GG p l e R s m args below meth c D cl A nL nc ns Q w x lv n (.int (iI z) :: st)) : GG p l e R s m args below meth c D cl A nL nc ns Q w x lv pc (.int (iI a) :: st) :=
  fun H locs ls hP hD hS hl => by
    subst hn; subst hz
    refine lv_ineg C.1 C.2.1 hd ?_
    have h := k H locs ls hP hD hS hl
    unfold iI at h ⊢
    rw [Int32.ofInt_neg] at h
    exact h
theorem g_iand (C : CX p s m args c cc nL own Ts D cl tys) {a b : Int32} {z : Int} (hd : decode cc pc = .ok (.iand, 1)) (hz : a &&& b = iI z) (hn : pc + 1 = n) (k : GG p l e R s m args below meth c D cl A nL nc ns Q w x lv n (.int (iI z) :: st)) : GG p l e R s m args below meth c D cl A nL nc ns Q w x lv pc (.int b :: .int a :: st) :=
  fun H locs ls hP hD hS hl => by subst hn; exact lv_iand C.1 C.2.1 hd (hz ▸ k H locs ls hP hD hS hl)
theorem g_ior (C : CX p s m args c cc nL own Ts D cl tys) {a b : Int32} {z : Int} (hd : decode cc pc = .ok (.ior, 1)) (hz : a ||| b = iI z) (hn : pc + 1 = n) (k : GG p l e R s m args below meth c D cl A nL nc ns Q w x lv n (.int (iI z) :: st)) : GG p l e R s m args below meth c D cl A nL nc ns Q w x lv pc (.int b :: .int a :: st) :=
  fun H locs ls hP hD hS hl => by subst hn; exact lv_ior C.1 C.2.1 hd (hz ▸ k H locs ls hP hD hS hl)
theorem g_ixor (C : CX p s m args c cc nL own Ts D cl tys) {a b : Int32} {z : Int} (hd : decode cc pc = .ok (.ixor, 1)) (hz : a ^^^ b = iI z) (hn : pc + 1 = n) (k : GG p l e R s m args below meth c D cl A nL nc ns Q w x lv n (.int (iI z) :: st)) : GG p l e R s m args below meth c D cl A nL nc ns Q w x lv pc (.int b :: .int a :: st) :=
  fun H locs ls hP hD hS hl => by subst hn; exact lv_ixor C.1 C.2.1 hd (hz ▸ k H locs ls hP hD hS hl)
theorem g_ishl (C : CX p s m args c cc nL own Ts D cl tys) {a b : Int32} {z : Int} (hd : decode cc pc = .ok (.ishl, 1)) (hz : a <<< (b &&& 31) = iI z) (hn : pc + 1 = n) (k : GG p l e R s m args below meth c D cl A nL nc ns Q w x lv n (.int (iI z) :: st)) : GG p l e R s m args below meth c D cl A nL nc ns Q w x lv pc (.int b :: .int a :: st) :=
  fun H locs ls hP hD hS hl => by subst hn; exact lv_ishl C.1 C.2.1 hd (hz ▸ k H locs ls hP hD hS hl)
theorem g_ishr (C : CX p s m args c cc nL own Ts D cl tys) {a b : Int32} {z : Int} (hd : decode cc pc = .ok (.ishr, 1)) (hz : a >>> (b &&& 31) = iI z) (hn : pc + 1 = n) (k : GG p l e R s m args below meth c D cl A nL nc ns Q w x lv n (.int (iI z) :: st)) : GG p l e R s m args below meth c D cl A nL nc ns Q w x lv pc (.int b :: .int a :: st) :=
  fun H locs ls hP hD hS hl => by subst hn; exact lv_ishr C.1 C.2.1 hd (hz ▸ k H locs ls hP hD hS hl)
theorem g_idiv (C : CX p s m args c cc nL own Ts D cl tys) {a b : Int32} {z : Int} (hd : decode cc pc = .ok (.idiv, 1)) (hb : ¬ b = 0) (hz : a / b = iI z) (hn : pc + 1 = n) (k : GG p l e R s m args below meth c D cl A nL nc ns Q w x lv n (.int (iI z) :: st)) : GG p l e R s m args below meth c D cl A nL nc ns Q w x lv pc (.int b :: .int a :: st) :=
  fun H locs ls hP hD hS hl => by subst hn; exact lv_idiv C.1 C.2.1 hd hb (hz ▸ k H locs ls hP hD hS hl)
theorem g_lor (C : CX p s m args c cc nL own Ts D cl tys) {a b : Int64} {z : Int} (hd : decode cc pc = .ok (.lor, 1)) (hz : a ||| b = lI z) (hn : pc + 1 = n) (k : GG p l e R s m args below meth c D cl A nL nc ns Q w x lv n (.long (lI z) :: st)) : GG p l e R s m args below meth c D cl A nL nc ns Q w x lv pc (.long b :: .long a :: st) :=
  fun H locs ls hP hD hS hl => by subst hn; exact lv_lor C.1 C.2.1 hd (hz ▸ k H locs ls hP hD hS hl)
theorem g_land (C : CX p s m args c cc nL own Ts D cl tys) {a b : Int64} {z : Int} (hd : decode cc pc = .ok (.land, 1)) (hz : a &&& b = lI z) (hn : pc + 1 = n) (k : GG p l e R s m args below meth c D cl A nL nc ns Q w x lv n (.long (lI z) :: st)) : GG p l e R s m args below meth c D cl A nL nc ns Q w x lv pc (.long b :: .long a :: st) :=
  fun H locs ls hP hD hS hl => by subst hn; exact lv_land C.1 C.2.1 hd (hz ▸ k H locs ls hP hD hS hl)
theorem g_lshl (C : CX p s m args c cc nL own Ts D cl tys) {a : Int64} {b : Int32} {z : Int} (hd : decode cc pc = .ok (.lshl, 1)) (hz : a <<< (b.toInt64 &&& 63) = lI z) (hn : pc + 1 = n) (k : GG p l e R s m args below meth c D cl A nL nc ns Q w x lv n (.long (lI z) :: st)) : GG p l e R s m args below meth c D cl A nL nc ns Q w x lv pc (.int b :: .long a :: st) :=
  fun H locs ls hP hD hS hl => by subst hn; exact lv_lshl C.1 C.2.1 hd hz (k H locs ls hP hD hS hl)
theorem g_lshr (C : CX p s m args c cc nL own Ts D cl tys) {a : Int64} {b : Int32} {z : Int} (hd : decode cc pc = .ok (.lshr, 1)) (hz : a >>> (b.toInt64 &&& 63) = lI z) (hn : pc + 1 = n) (k : GG p l e R s m args below meth c D cl A nL nc ns Q w x lv n (.long (lI z) :: st)) : GG p l e R s m args below meth c D cl A nL nc ns Q w x lv pc (.int b :: .long a :: st) :=
  fun H locs ls hP hD hS hl => by subst hn; exact lv_lshr C.1 C.2.1 hd hz (k H locs ls hP hD hS hl)
theorem g_i2l (C : CX p s m args c cc nL own Ts D cl tys) {a : Int32} {z : Int} (hd : decode cc pc = .ok (.i2l, 1)) (hz : a.toInt64 = lI z) (hn : pc + 1 = n) (k : GG p l e R s m args below meth c D cl A nL nc ns Q w x lv n (.long (lI z) :: st)) : GG p l e R s m args below meth c D cl A nL nc ns Q w x lv pc (.int a :: st) :=
  fun H locs ls hP hD hS hl => by subst hn; exact lv_i2l C.1 C.2.1 hd hz (k H locs ls hP hD hS hl)
theorem g_l2i (C : CX p s m args c cc nL own Ts D cl tys) {a : Int} (hd : decode cc pc = .ok (.l2i, 1)) (hn : pc + 1 = n) (k : GG p l e R s m args below meth c D cl A nL nc ns Q w x lv n (.int (iI a) :: st)) : GG p l e R s m args below meth c D cl A nL nc ns Q w x lv pc (.long (lI a) :: st) :=
  fun H locs ls hP hD hS hl => by subst hn; exact lv_l2i C.1 C.2.1 hd Int64.toInt32_ofInt (k H locs ls hP hD hS hl)
theorem g_dup (C : CX p s m args c cc nL own Ts D cl tys) {va : Value} (hd : decode cc pc = .ok (.dup, 1)) (hva : va.category = 1) (hn : pc + 1 = n) (k : GG p l e R s m args below meth c D cl A nL nc ns Q w x lv n (va :: va :: st)) : GG p l e R s m args below meth c D cl A nL nc ns Q w x lv pc (va :: st) :=
  fun H locs ls hP hD hS hl => by subst hn; exact lv_dup C.1 C.2.1 hd hva (k H locs ls hP hD hS hl)
theorem g_pop (C : CX p s m args c cc nL own Ts D cl tys) {va : Value} (hd : decode cc pc = .ok (.pop, 1)) (hva : va.category = 1) (hn : pc + 1 = n) (k : GG p l e R s m args below meth c D cl A nL nc ns Q w x lv n (st)) : GG p l e R s m args below meth c D cl A nL nc ns Q w x lv pc (va :: st) :=
  fun H locs ls hP hD hS hl => by subst hn; exact lv_pop C.1 C.2.1 hd hva (k H locs ls hP hD hS hl)
theorem g_dup_x1 (C : CX p s m args c cc nL own Ts D cl tys) {va vb : Value} (hd : decode cc pc = .ok (.dup_x1, 1)) (hva : va.category = 1) (hvb : vb.category = 1) (hn : pc + 1 = n) (k : GG p l e R s m args below meth c D cl A nL nc ns Q w x lv n (va :: vb :: va :: st)) : GG p l e R s m args below meth c D cl A nL nc ns Q w x lv pc (va :: vb :: st) :=
  fun H locs ls hP hD hS hl => by subst hn; exact lv_dup_x1 C.1 C.2.1 hd hva hvb (k H locs ls hP hD hS hl)
theorem g_dup_x2 (C : CX p s m args c cc nL own Ts D cl tys) {va vb vd : Value} (hd : decode cc pc = .ok (.dup_x2, 1)) (hva : va.category = 1) (hvb : vb.category = 1) (hvd : vd.category = 1) (hn : pc + 1 = n) (k : GG p l e R s m args below meth c D cl A nL nc ns Q w x lv n (va :: vb :: vd :: va :: st)) : GG p l e R s m args below meth c D cl A nL nc ns Q w x lv pc (va :: vb :: vd :: st) :=
  fun H locs ls hP hD hS hl => by subst hn; exact lv_dup_x2 C.1 C.2.1 hd hva hvb hvd (k H locs ls hP hD hS hl)
theorem g_dup2 (C : CX p s m args c cc nL own Ts D cl tys) {va vb : Value} (hd : decode cc pc = .ok (.dup2, 1)) (hva : va.category = 1) (hvb : vb.category = 1) (hn : pc + 1 = n) (k : GG p l e R s m args below meth c D cl A nL nc ns Q w x lv n (va :: vb :: va :: vb :: st)) : GG p l e R s m args below meth c D cl A nL nc ns Q w x lv pc (va :: vb :: st) :=
  fun H locs ls hP hD hS hl => by subst hn; exact lv_dup2_11 C.1 C.2.1 hd hva hvb (k H locs ls hP hD hS hl)
theorem r32_0 : r32 0 := by decide
theorem g_icmp_eq (C : CX p s m args c cc nL own Ts D cl tys) {a b : Int} {off : Int} {tgt : Nat} (hd : decode cc pc = .ok (.if_icmp .eq off, 3)) (ht : (pc : Int) + off = (tgt : Int)) (hn : pc + 3 = n) (ha : r32 a) (hb : r32 b) (kt : a = b → GG p l e R s m args below meth c D cl A nL nc ns Q w x lv tgt st) (kf : a ≠ b → GG p l e R s m args below meth c D cl A nL nc ns Q w x lv n st) : GG p l e R s m args below meth c D cl A nL nc ns Q w x lv pc (.int (iI b) :: .int (iI a) :: st) :=
  fun H locs ls hP hD hS hl => by
    subst hn
    exact lv_icmp_eq C.1 C.2.1 hd ht (fun h => kt ((iI_eq ha hb).mp h) H locs ls hP hD hS hl) (fun h => kf (fun q => h ((iI_eq ha hb).mpr q)) H locs ls hP hD hS hl)
theorem g_icmp_ne (C : CX p s m args c cc nL own Ts D cl tys) {a b : Int} {off : Int} {tgt : Nat} (hd : decode cc pc = .ok (.if_icmp .ne off, 3)) (ht : (pc : Int) + off = (tgt : Int)) (hn : pc + 3 = n) (ha : r32 a) (hb : r32 b) (kt : a ≠ b → GG p l e R s m args below meth c D cl A nL nc ns Q w x lv tgt st) (kf : a = b → GG p l e R s m args below meth c D cl A nL nc ns Q w x lv n st) : GG p l e R s m args below meth c D cl A nL nc ns Q w x lv pc (.int (iI b) :: .int (iI a) :: st) :=
  fun H locs ls hP hD hS hl => by
    subst hn
    exact lv_icmp_ne C.1 C.2.1 hd ht (fun h => kt (fun q => h ((iI_eq ha hb).mpr q)) H locs ls hP hD hS hl) (fun h => kf ((iI_eq ha hb).mp h) H locs ls hP hD hS hl)
theorem g_icmp_lt (C : CX p s m args c cc nL own Ts D cl tys) {a b : Int} {off : Int} {tgt : Nat} (hd : decode cc pc = .ok (.if_icmp .lt off, 3)) (ht : (pc : Int) + off = (tgt : Int)) (hn : pc + 3 = n) (ha : r32 a) (hb : r32 b) (kt : a < b → GG p l e R s m args below meth c D cl A nL nc ns Q w x lv tgt st) (kf : b ≤ a → GG p l e R s m args below meth c D cl A nL nc ns Q w x lv n st) : GG p l e R s m args below meth c D cl A nL nc ns Q w x lv pc (.int (iI b) :: .int (iI a) :: st) :=
  fun H locs ls hP hD hS hl => by
    subst hn
    exact lv_icmp_lt C.1 C.2.1 hd ht (fun h => kt ((iI_lt ha hb).mp h) H locs ls hP hD hS hl) (fun h => kf (Int.not_lt.mp (fun q => h ((iI_lt ha hb).mpr q))) H locs ls hP hD hS hl)
theorem g_icmp_ge (C : CX p s m args c cc nL own Ts D cl tys) {a b : Int} {off : Int} {tgt : Nat} (hd : decode cc pc = .ok (.if_icmp .ge off, 3)) (ht : (pc : Int) + off = (tgt : Int)) (hn : pc + 3 = n) (ha : r32 a) (hb : r32 b) (kt : b ≤ a → GG p l e R s m args below meth c D cl A nL nc ns Q w x lv tgt st) (kf : a < b → GG p l e R s m args below meth c D cl A nL nc ns Q w x lv n st) : GG p l e R s m args below meth c D cl A nL nc ns Q w x lv pc (.int (iI b) :: .int (iI a) :: st) :=
  fun H locs ls hP hD hS hl => by
    subst hn
    exact lv_icmp_ge C.1 C.2.1 hd ht (fun h => kt ((iI_le hb ha).mp h) H locs ls hP hD hS hl) (fun h => kf (Int.not_le.mp (fun q => h ((iI_le hb ha).mpr q))) H locs ls hP hD hS hl)
theorem g_icmp_gt (C : CX p s m args c cc nL own Ts D cl tys) {a b : Int} {off : Int} {tgt : Nat} (hd : decode cc pc = .ok (.if_icmp .gt off, 3)) (ht : (pc : Int) + off = (tgt : Int)) (hn : pc + 3 = n) (ha : r32 a) (hb : r32 b) (kt : b < a → GG p l e R s m args below meth c D cl A nL nc ns Q w x lv tgt st) (kf : a ≤ b → GG p l e R s m args below meth c D cl A nL nc ns Q w x lv n st) : GG p l e R s m args below meth c D cl A nL nc ns Q w x lv pc (.int (iI b) :: .int (iI a) :: st) :=
  fun H locs ls hP hD hS hl => by
    subst hn
    exact lv_icmp_gt C.1 C.2.1 hd ht (fun h => kt ((iI_lt hb ha).mp h) H locs ls hP hD hS hl) (fun h => kf (Int.not_lt.mp (fun q => h ((iI_lt hb ha).mpr q))) H locs ls hP hD hS hl)
theorem g_icmp_le (C : CX p s m args c cc nL own Ts D cl tys) {a b : Int} {off : Int} {tgt : Nat} (hd : decode cc pc = .ok (.if_icmp .le off, 3)) (ht : (pc : Int) + off = (tgt : Int)) (hn : pc + 3 = n) (ha : r32 a) (hb : r32 b) (kt : a ≤ b → GG p l e R s m args below meth c D cl A nL nc ns Q w x lv tgt st) (kf : b < a → GG p l e R s m args below meth c D cl A nL nc ns Q w x lv n st) : GG p l e R s m args below meth c D cl A nL nc ns Q w x lv pc (.int (iI b) :: .int (iI a) :: st) :=
  fun H locs ls hP hD hS hl => by
    subst hn
    exact lv_icmp_le C.1 C.2.1 hd ht (fun h => kt ((iI_le ha hb).mp h) H locs ls hP hD hS hl) (fun h => kf (Int.not_le.mp (fun q => h ((iI_le ha hb).mpr q))) H locs ls hP hD hS hl)
theorem g_if_eq (C : CX p s m args c cc nL own Ts D cl tys) {a : Int} {off : Int} {tgt : Nat} (hd : decode cc pc = .ok (.ifCond .eq off, 3)) (ht : (pc : Int) + off = (tgt : Int)) (hn : pc + 3 = n) (ha : r32 a) (kt : a = 0 → GG p l e R s m args below meth c D cl A nL nc ns Q w x lv tgt st) (kf : a ≠ 0 → GG p l e R s m args below meth c D cl A nL nc ns Q w x lv n st) : GG p l e R s m args below meth c D cl A nL nc ns Q w x lv pc (.int (iI a) :: st) :=
  fun H locs ls hP hD hS hl => by
    subst hn
    have hb := r32_0
    exact lv_if_eq C.1 C.2.1 hd ht (fun h => kt ((iI_eq ha hb).mp h) H locs ls hP hD hS hl) (fun h => kf (fun q => h ((iI_eq ha hb).mpr q)) H locs ls hP hD hS hl)
theorem g_if_ne (C : CX p s m args c cc nL own Ts D cl tys) {a : Int} {off : Int} {tgt : Nat} (hd : decode cc pc = .ok (.ifCond .ne off, 3)) (ht : (pc : Int) + off = (tgt : Int)) (hn : pc + 3 = n) (ha : r32 a) (kt : a ≠ 0 → GG p l e R s m args below meth c D cl A nL nc ns Q w x lv tgt st) (kf : a = 0 → GG p l e R s m args below meth c D cl A nL nc ns Q w x lv n st) : GG p l e R s m args below meth c D cl A nL nc ns Q w x lv pc (.int (iI a) :: st) :=
  fun H locs ls hP hD hS hl => by
    subst hn
    have hb := r32_0
    exact lv_if_ne C.1 C.2.1 hd ht (fun h => kt (fun q => h ((iI_eq ha hb).mpr q)) H locs ls hP hD hS hl) (fun h => kf ((iI_eq ha hb).mp h) H locs ls hP hD hS hl)
theorem g_if_lt (C : CX p s m args c cc nL own Ts D cl tys) {a : Int} {off : Int} {tgt : Nat} (hd : decode cc pc = .ok (.ifCond .lt off, 3)) (ht : (pc : Int) + off = (tgt : Int)) (hn : pc + 3 = n) (ha : r32 a) (kt : a < 0 → GG p l e R s m args below meth c D cl A nL nc ns Q w x lv tgt st) (kf : 0 ≤ a → GG p l e R s m args below meth c D cl A nL nc ns Q w x lv n st) : GG p l e R s m args below meth c D cl A nL nc ns Q w x lv pc (.int (iI a) :: st) :=
  fun H locs ls hP hD hS hl => by
    subst hn
    have hb := r32_0
    exact lv_if_lt C.1 C.2.1 hd ht (fun h => kt ((iI_lt ha hb).mp h) H locs ls hP hD hS hl) (fun h => kf (Int.not_lt.mp (fun q => h ((iI_lt ha hb).mpr q))) H locs ls hP hD hS hl)
theorem g_if_ge (C : CX p s m args c cc nL own Ts D cl tys) {a : Int} {off : Int} {tgt : Nat} (hd : decode cc pc = .ok (.ifCond .ge off, 3)) (ht : (pc : Int) + off = (tgt : Int)) (hn : pc + 3 = n) (ha : r32 a) (kt : 0 ≤ a → GG p l e R s m args below meth c D cl A nL nc ns Q w x lv tgt st) (kf : a < 0 → GG p l e R s m args below meth c D cl A nL nc ns Q w x lv n st) : GG p l e R s m args below meth c D cl A nL nc ns Q w x lv pc (.int (iI a) :: st) :=
  fun H locs ls hP hD hS hl => by
    subst hn
    have hb := r32_0
    exact lv_if_ge C.1 C.2.1 hd ht (fun h => kt ((iI_le hb ha).mp h) H locs ls hP hD hS hl) (fun h => kf (Int.not_le.mp (fun q => h ((iI_le hb ha).mpr q))) H locs ls hP hD hS hl)
theorem g_if_gt (C : CX p s m args c cc nL own Ts D cl tys) {a : Int} {off : Int} {tgt : Nat} (hd : decode cc pc = .ok (.ifCond .gt off, 3)) (ht : (pc : Int) + off = (tgt : Int)) (hn : pc + 3 = n) (ha : r32 a) (kt : 0 < a → GG p l e R s m args below meth c D cl A nL nc ns Q w x lv tgt st) (kf : a ≤ 0 → GG p l e R s m args below meth c D cl A nL nc ns Q w x lv n st) : GG p l e R s m args below meth c D cl A nL nc ns Q w x lv pc (.int (iI a) :: st) :=
  fun H locs ls hP hD hS hl => by
    subst hn
    have hb := r32_0
    exact lv_if_gt C.1 C.2.1 hd ht (fun h => kt ((iI_lt hb ha).mp h) H locs ls hP hD hS hl) (fun h => kf (Int.not_lt.mp (fun q => h ((iI_lt hb ha).mpr q))) H locs ls hP hD hS hl)
theorem g_if_le (C : CX p s m args c cc nL own Ts D cl tys) {a : Int} {off : Int} {tgt : Nat} (hd : decode cc pc = .ok (.ifCond .le off, 3)) (ht : (pc : Int) + off = (tgt : Int)) (hn : pc + 3 = n) (ha : r32 a) (kt : a ≤ 0 → GG p l e R s m args below meth c D cl A nL nc ns Q w x lv tgt st) (kf : 0 < a → GG p l e R s m args below meth c D cl A nL nc ns Q w x lv n st) : GG p l e R s m args below meth c D cl A nL nc ns Q w x lv pc (.int (iI a) :: st) :=
  fun H locs ls hP hD hS hl => by
    subst hn
    have hb := r32_0
    exact lv_if_le C.1 C.2.1 hd ht (fun h => kt ((iI_le ha hb).mp h) H locs ls hP hD hS hl) (fun h => kf (Int.not_le.mp (fun q => h ((iI_le ha hb).mpr q))) H locs ls hP hD hS hl)
theorem g_goto (C : CX p s m args c cc nL own Ts D cl tys) {off : Int} {tgt : Nat} (hd : decode cc pc = .ok (.goto off, 3)) (ht : (pc : Int) + off = (tgt : Int)) (k : GG p l e R s m args below meth c D cl A nL nc ns Q w x lv tgt st) : GG p l e R s m args below meth c D cl A nL nc ns Q w x lv pc st :=
  fun H locs ls hP hD hS hl => lv_goto C.1 C.2.1 hd ht (k H locs ls hP hD hS hl)
theorem g_nm {z : Int} (k : ∀ y : Int, y = z → GG p l e R s m args below meth c D cl A nL nc ns Q w x lv pc (.int (iI y) :: st)) : GG p l e R s m args below meth c D cl A nL nc ns Q w x lv pc (.int (iI z) :: st) := k z rfl
theorem g_nml {z : Int} (k : ∀ y : Int, y = z → GG p l e R s m args below meth c D cl A nL nc ns Q w x lv pc (.long (lI y) :: st)) : GG p l e R s m args below meth c D cl A nL nc ns Q w x lv pc (.long (lI z) :: st) := k z rfl
/-- -1, 0 or 1 -/
def sg (a b : Int) : Int := if b < a then 1 else if a = b then 0 else -1
theorem sg_r (a b : Int) : r32 (sg a b) := by unfold sg; split; decide; split <;> decide
theorem sg_le {a b : Int} : sg a b ≤ 0 ↔ a ≤ b := by unfold sg; split; omega; split <;> omega
theorem sg_ge {a b : Int} : 0 ≤ sg a b ↔ b ≤ a := by unfold sg; split; omega; split <;> omega
theorem sg_lt {a b : Int} : sg a b < 0 ↔ a < b := by unfold sg; split; omega; split <;> omega
theorem sg_gt {a b : Int} : 0 < sg a b ↔ b < a := by unfold sg; split; omega; split <;> omega
theorem g_lcmp (C : CX p s m args c cc nL own Ts D cl tys) {a b : Int} (hd : decode cc pc = .ok (.lcmp, 1)) (ha : r64 a) (hb : r64 b) (hn : pc + 1 = n) (k : GG p l e R s m args below meth c D cl A nL nc ns Q w x lv n (.int (iI (sg a b)) :: st)) : GG p l e R s m args below meth c D cl A nL nc ns Q w x lv pc (.long (lI b) :: .long (lI a) :: st) :=
  fun H locs ls hP hD hS hl => by
    subst hn
    refine W.lcmp C.1 C.2.1 hd ?_
    have h := k H locs ls hP hD hS hl
    have e1 := lI_lt hb ha
    have e3 : lI a = lI b ↔ a = b := by rw [← Int64.toInt_inj, lI_t ha, lI_t hb]
    have e : lg_cmp (lI a) (lI b) = iI (sg a b) := by
      unfold lg_cmp sg
      by_cases c1 : b < a
      · rw [if_pos (e1.mpr c1), if_pos c1]; rfl
      · rw [if_neg (fun q => c1 (e1.mp q)), if_neg c1]
        by_cases c2 : a = b
        · rw [if_pos (e3.mpr c2), if_pos c2]; rfl
        · rw [if_neg (fun q => c2 (e3.mp q)), if_neg c2]; rfl
    rw [e]
    exact h
theorem GG.lvs (h : ∀ q ∈ lv', lk lv q.1 = some q.2) (k : GG p l e R s m args below meth c D cl A nL nc ns Q w x lv' pc st) : GG p l e R s m args below meth c D cl A nL nc ns Q w x lv pc st :=
  fun H locs ls hP hD hS hl => k H locs ls hP hD hS ⟨hl.1, hl.2.1, fun q hq => lk_at (nL := nL) hl.2.2 (h q hq)⟩
theorem GG.at {x' : τ} (h : x = x') (k : GG p l e R s m args below meth c D cl A nL nc ns Q w x' lv pc st) : GG p l e R s m args below meth c D cl A nL nc ns Q w x lv pc st := h ▸ k
theorem g_pop2 (C : CX p s m args c cc nL own Ts D cl tys) {va : Value} (hd : decode cc pc = .ok (.pop2, 1)) (hva : va.category = 2) (hn : pc + 1 = n) (k : GG p l e R s m args below meth c D cl A nL nc ns Q w x lv n st) : GG p l e R s m args below meth c D cl A nL nc ns Q w x lv pc (va :: st) :=
  fun H locs ls hP hD hS hl => by subst hn; exact lv_pop2_2 C.1 C.2.1 hd hva (k H locs ls hP hD hS hl)
/-! fields -/
theorem g_get (C : CX p s m args c cc nL own Ts D cl tys) {ref Cn : String} {T : u_T} {N ci index a : Nat} {fs : List Value} {v : Value} (q0 k : Nat) (hin : ∀ wd ∈ u_ws Cn T N, wd ∈ Ts) (he : (w x)[q0]? = some (a, .inr (ci, fs))) (hc : cl[ci]? = some (Cn, T, N)) (hk : k < N) (hlink : Cond.fieldLink own index ref (T k).2.1 (T k).2.2.1 ∈ Ts) (hs : (T k).1 = ref) (hv : fs[k]? = some v) (hd : decode cc pc = .ok (.getfield index, 3)) (hn : pc + 3 = n)
    (kk : GG p l e R s m args below meth c D cl A nL nc ns Q w x lv n (v :: st)) : GG p l e R s m args below meth c D cl A nL nc ns Q w x lv pc (.ref a :: st) :=
  fun H locs ls hP hD hS hl => by
    subst hn
    exact va_get C.1 C.2.1 C.2.2.2.2.1 hin C.2.2.2.1 C.2.2.2.2.2.1 hP q0 he hc k hk (C.2.2.2.2.1 _ hlink) (fun y hy => hs ▸ hy) hv hd (kk H locs ls hP hD hS hl)
theorem g_getN (C : CX p s m args c cc nL own Ts D cl tys) {ref Cn host : String} {T : u_T} {N ci index a : Nat} {fs : List Value} {v : Value} (q0 k : Nat) (hin : ∀ wd ∈ u_ws Cn T N, wd ∈ Ts) (he : (w x)[q0]? = some (a, .inr (ci, fs))) (hc : cl[ci]? = some (Cn, T, N)) (hk : k < N) (hlink : Cond.fieldLinkNest own index ref (T k).2.1 (T k).2.2.1 host ∈ NN) (hs : (T k).1 = ref) (hv : fs[k]? = some v) (hd : decode cc pc = .ok (.getfield index, 3)) (hn : pc + 3 = n)
    (kk : GG p l e R s m args below meth c D cl A nL nc ns Q w x lv n (v :: st)) : GG p l e R s m args below meth c D cl A nL nc ns Q w x lv pc (.ref a :: st) :=
  fun H locs ls hP hD hS hl => by
    subst hn
    exact va_getN C.1 C.2.1 C.2.2.2.2.1 hin C.2.2.2.1 C.2.2.2.2.2.1 hP q0 he hc k hk (va_Nw.use rfl (C.2.2.2.2.2.2 _ hlink)) (fun y hy => hs ▸ hy) hv hd (kk H locs ls hP hD hS hl)
theorem g_put (C : CX p s m args c cc nL own Ts D cl tys) {ref Cn : String} {T : u_T} {N ci index a : Nat} {fs : List Value} {v : Value} {ty : FieldType} {x' : τ} (q0 k : Nat) (ty0 : Nat → FieldType) (hin : ∀ wd ∈ u_ws Cn T N, wd ∈ Ts) (hty : ∀ k, k < N → parseFieldDescriptor (T k).2.2.1 = some (ty0 k)) (hnm : ∀ a, a < N → ∀ b, b < N → a ≠ b → (T a).2.1 ≠ (T b).2.1) (he : (w x)[q0]? = some (a, .inr (ci, fs))) (hc : cl[ci]? = some (Cn, T, N)) (hk : k < N) (hlink : Cond.fieldLink own index ref (T k).2.1 (T k).2.2.1 ∈ Ts) (hs : (T k).1 = ref) (hfin : (T k).2.2.2 = false) (hp : parseFieldDescriptor (T k).2.2.1 = some ty) (hnar : narrow ty v = v) (hfit : fits ty v = true) (hlen : k < fs.length) (hw : (w x).set q0 (a, .inr (ci, fs.set k v)) = w x') (hd : decode cc pc = .ok (.putfield index, 3)) (hn : pc + 3 = n)
    (kk : GG p l e R s m args below meth c D cl A nL nc ns Q w x' lv n st) : GG p l e R s m args below meth c D cl A nL nc ns Q w x lv pc (v :: .ref a :: st) :=
  fun H locs ls hP hD hS hl => by
    subst hn
    refine va_put C.1 C.2.1 C.2.2.2.2.1 hin ty0 hty hnm C.2.2.2.1 C.2.2.2.2.2.1 hP hD hS q0 he hc k hk (C.2.2.2.2.1 _ hlink) (fun y hy => hs ▸ hy) hfin hp hnar hfit hlen hd (fun H1 locs1 hP1 hD1 hS1 => ?_)
    rw [hw] at hP1 hD1
    exact kk H1 locs1 ls hP1 hD1 hS1 hl
theorem g_putN (C : CX p s m args c cc nL own Ts D cl tys) {ref Cn host : String} {T : u_T} {N ci index a : Nat} {fs : List Value} {v : Value} {ty : FieldType} {x' : τ} (q0 k : Nat) (ty0 : Nat → FieldType) (hin : ∀ wd ∈ u_ws Cn T N, wd ∈ Ts) (hty : ∀ k, k < N → parseFieldDescriptor (T k).2.2.1 = some (ty0 k)) (hnm : ∀ a, a < N → ∀ b, b < N → a ≠ b → (T a).2.1 ≠ (T b).2.1) (he : (w x)[q0]? = some (a, .inr (ci, fs))) (hc : cl[ci]? = some (Cn, T, N)) (hk : k < N) (hlink : Cond.fieldLinkNest own index ref (T k).2.1 (T k).2.2.1 host ∈ NN) (hs : (T k).1 = ref) (hfin : (T k).2.2.2 = false) (hp : parseFieldDescriptor (T k).2.2.1 = some ty) (hnar : narrow ty v = v) (hfit : fits ty v = true) (hlen : k < fs.length) (hw : (w x).set q0 (a, .inr (ci, fs.set k v)) = w x') (hd : decode cc pc = .ok (.putfield index, 3)) (hn : pc + 3 = n)
    (kk : GG p l e R s m args below meth c D cl A nL nc ns Q w x' lv n st) : GG p l e R s m args below meth c D cl A nL nc ns Q w x lv pc (v :: .ref a :: st) :=
  fun H locs ls hP hD hS hl => by
    subst hn
    refine va_putN C.1 C.2.1 C.2.2.2.2.1 hin ty0 hty hnm C.2.2.2.1 C.2.2.2.2.2.1 hP hD hS q0 he hc k hk (va_Nw.use rfl (C.2.2.2.2.2.2 _ hlink)) (fun y hy => hs ▸ hy) hfin hp hnar hfit hlen hd (fun H1 locs1 hP1 hD1 hS1 => ?_)
    rw [hw] at hP1 hD1
    exact kk H1 locs1 ls hP1 hD1 hS1 hl
/-! arrays -/
def ia (f : Int → Int) : Nat → Int32 := fun j => iI (f (j : Int))
def la (f : Int → Int) : Nat → Int64 := fun j => lI (f (j : Int))
theorem ia_at {f : Int → Int} {z : Int} (h0 : 0 ≤ z) (h1 : z < 2147483648) : ia f (iI z).toNatClampNeg = iI (f z) := by
  unfold ia
  rw [iI_cl h0 h1, Int.toNat_of_nonneg h0]
theorem la_at {f : Int → Int} {z : Int} (h0 : 0 ≤ z) (h1 : z < 2147483648) : la f (iI z).toNatClampNeg = lI (f z) := by
  unfold la
  rw [iI_cl h0 h1, Int.toNat_of_nonneg h0]
theorem ia_up {f : Int → Int} {z v : Int} (h0 : 0 ≤ z) (h1 : z < 2147483648) : upd (ia f) (iI z).toNatClampNeg (iI v) = ia (up_ f z v) := by
  funext j
  unfold upd ia up_
  rw [iI_cl h0 h1]
  by_cases c : j = z.toNat
  · rw [if_pos c, if_pos (by omega)]
  · rw [if_neg c, if_neg (by omega)]
theorem la_up {f : Int → Int} {z v : Int} (h0 : 0 ≤ z) (h1 : z < 2147483648) : vp_updL (la f) (iI z).toNatClampNeg (lI v) = la (up_ f z v) := by
  funext j
  unfold vp_updL la up_
  rw [iI_cl h0 h1]
  by_cases c : j = z.toNat
  · rw [if_pos c, if_pos (by omega)]
  · rw [if_neg c, if_neg (by omega)]
theorem g_iald (C : CX p s m args c cc nL own Ts D cl tys) {a N : Nat} {cA : ClassId} {f : Int → Int} {z : Int} (q0 t0 : Nat) (he : (w x)[q0]? = some (a, .inl (cA, N, .inl (ia f)))) (ht : tys[t0]? = some (cA, .int)) (h0 : 0 ≤ z) (h1 : z < N) (hN : N < 2147483648) (hd : decode cc pc = .ok (.iaload, 1)) (hn : pc + 1 = n)
    (kk : GG p l e R s m args below meth c D cl A nL nc ns Q w x lv n (.int (iI (f z)) :: st)) : GG p l e R s m args below meth c D cl A nL nc ns Q w x lv pc (.int (iI z) :: .ref a :: st) :=
  fun H locs ls hP hD hS hl => by
    subst hn
    refine va_iald C.1 C.2.1 C.2.2.2.2.2.1 hP q0 t0 he ht (iI_in h0 h1 hN) hd ?_
    rw [ia_at h0 (by omega)]
    exact kk H locs ls hP hD hS hl
theorem g_zald (C : CX p s m args c cc nL own Ts D cl tys) {a N : Nat} {cA : ClassId} {f : Int → Int} {z : Int} (q0 t0 : Nat) (he : (w x)[q0]? = some (a, .inl (cA, N, .inl (ia f)))) (ht : tys[t0]? = some (cA, .boolean)) (h0 : 0 ≤ z) (h1 : z < N) (hN : N < 2147483648) (hd : decode cc pc = .ok (.baload, 1)) (hn : pc + 1 = n)
    (kk : GG p l e R s m args below meth c D cl A nL nc ns Q w x lv n (.int (iI (f z)) :: st)) : GG p l e R s m args below meth c D cl A nL nc ns Q w x lv pc (.int (iI z) :: .ref a :: st) :=
  fun H locs ls hP hD hS hl => by
    subst hn
    refine va_zald C.1 C.2.1 C.2.2.2.2.2.1 hP q0 t0 he ht (iI_in h0 h1 hN) hd ?_
    rw [ia_at h0 (by omega)]
    exact kk H locs ls hP hD hS hl
theorem g_lald (C : CX p s m args c cc nL own Ts D cl tys) {a N : Nat} {cA : ClassId} {f : Int → Int} {z : Int} (q0 t0 : Nat) (he : (w x)[q0]? = some (a, .inl (cA, N, .inr (.inl (la f))))) (ht : tys[t0]? = some (cA, .long)) (h0 : 0 ≤ z) (h1 : z < N) (hN : N < 2147483648) (hd : decode cc pc = .ok (.laload, 1)) (hn : pc + 1 = n)
    (kk : GG p l e R s m args below meth c D cl A nL nc ns Q w x lv n (.long (lI (f z)) :: st)) : GG p l e R s m args below meth c D cl A nL nc ns Q w x lv pc (.int (iI z) :: .ref a :: st) :=
  fun H locs ls hP hD hS hl => by
    subst hn
    refine va_lald C.1 C.2.1 C.2.2.2.2.2.1 hP q0 t0 he ht (iI_in h0 h1 hN) hd ?_
    rw [la_at h0 (by omega)]
    exact kk H locs ls hP hD hS hl
theorem g_iast (C : CX p s m args c cc nL own Ts D cl tys) {a N : Nat} {cA : ClassId} {f : Int → Int} {z v : Int} {x' : τ} (q0 t0 : Nat) (he : (w x)[q0]? = some (a, .inl (cA, N, .inl (ia f)))) (ht : tys[t0]? = some (cA, .int)) (h0 : 0 ≤ z) (h1 : z < N) (hN : N < 2147483648) (hw : (w x).set q0 (a, .inl (cA, N, .inl (ia (up_ f z v)))) = w x') (hd : decode cc pc = .ok (.iastore, 1)) (hn : pc + 1 = n)
    (kk : GG p l e R s m args below meth c D cl A nL nc ns Q w x' lv n st) : GG p l e R s m args below meth c D cl A nL nc ns Q w x lv pc (.int (iI v) :: .int (iI z) :: .ref a :: st) :=
  fun H locs ls hP hD hS hl => by
    subst hn
    refine va_iast C.1 C.2.1 C.2.2.2.2.2.1 hP hD hS q0 t0 he ht (iI_in h0 h1 hN) hd (fun H1 locs1 hP1 hD1 hS1 => ?_)
    rw [ia_up h0 (by omega), hw] at hP1 hD1
    exact kk H1 locs1 ls hP1 hD1 hS1 hl
theorem nar_z {v : Int} (h : v = 0 ∨ v = 1) : vp_nar .boolean (iI v) = iI v := by rcases h with rfl | rfl <;> decide +kernel
theorem g_zast (C : CX p s m args c cc nL own Ts D cl tys) {a N : Nat} {cA : ClassId} {f : Int → Int} {z v : Int} {x' : τ} (q0 t0 : Nat) (he : (w x)[q0]? = some (a, .inl (cA, N, .inl (ia f)))) (ht : tys[t0]? = some (cA, .boolean)) (h0 : 0 ≤ z) (h1 : z < N) (hN : N < 2147483648) (hv : v = 0 ∨ v = 1) (hw : (w x).set q0 (a, .inl (cA, N, .inl (ia (up_ f z v)))) = w x') (hd : decode cc pc = .ok (.bastore, 1)) (hn : pc + 1 = n)
    (kk : GG p l e R s m args below meth c D cl A nL nc ns Q w x' lv n st) : GG p l e R s m args below meth c D cl A nL nc ns Q w x lv pc (.int (iI v) :: .int (iI z) :: .ref a :: st) :=
  fun H locs ls hP hD hS hl => by
    subst hn
    refine va_zast C.1 C.2.1 C.2.2.2.2.2.1 hP hD hS q0 t0 he ht (iI_in h0 h1 hN) hd (fun H1 locs1 hP1 hD1 hS1 => ?_)
    rw [nar_z hv, ia_up h0 (by omega), hw] at hP1 hD1
    exact kk H1 locs1 ls hP1 hD1 hS1 hl
theorem g_last (C : CX p s m args c cc nL own Ts D cl tys) {a N : Nat} {cA : ClassId} {f : Int → Int} {z v : Int} {x' : τ} (q0 t0 : Nat) (he : (w x)[q0]? = some (a, .inl (cA, N, .inr (.inl (la f))))) (ht : tys[t0]? = some (cA, .long)) (h0 : 0 ≤ z) (h1 : z < N) (hN : N < 2147483648) (hw : (w x).set q0 (a, .inl (cA, N, .inr (.inl (la (up_ f z v))))) = w x') (hd : decode cc pc = .ok (.lastore, 1)) (hn : pc + 1 = n)
    (kk : GG p l e R s m args below meth c D cl A nL nc ns Q w x' lv n st) : GG p l e R s m args below meth c D cl A nL nc ns Q w x lv pc (.long (lI v) :: .int (iI z) :: .ref a :: st) :=
  fun H locs ls hP hD hS hl => by
    subst hn
    refine va_last C.1 C.2.1 C.2.2.2.2.2.1 hP hD hS q0 t0 he ht (iI_in h0 h1 hN) hd (fun H1 locs1 hP1 hD1 hS1 => ?_)
    rw [la_up h0 (by omega), hw] at hP1 hD1
    exact kk H1 locs1 ls hP1 hD1 hS1 hl
theorem g_aald (C : CX p s m args c cc nL own Ts D cl tys) {a N r : Nat} {cA : ClassId} {f : Nat → Option Nat} {z : Int} {t : FieldType} (q0 t0 : Nat) (he : (w x)[q0]? = some (a, .inl (cA, N, .inr (.inr (.inr (.inr f)))))) (ht : tys[t0]? = some (cA, .array t)) (h0 : 0 ≤ z) (h1 : z < N) (hN : N < 2147483648) (hf : f z.toNat = some r) (hd : decode cc pc = .ok (.aaload, 1)) (hn : pc + 1 = n)
    (kk : GG p l e R s m args below meth c D cl A nL nc ns Q w x lv n (.ref r :: st)) : GG p l e R s m args below meth c D cl A nL nc ns Q w x lv pc (.int (iI z) :: .ref a :: st) :=
  fun H locs ls hP hD hS hl => by
    subst hn
    have hin : vp_in (iI z) N := iI_in h0 h1 hN
    have hlt : (iI z).toNatClampNeg < N := Nat.not_le.mp fun q => hin (Or.inr q)
    refine W.aald (v := va_rf (f (iI z).toNatClampNeg)) (ty := .array t) C.1 C.2.1 (hP q0 _ he) ((C.2.2.2.2.2.1.2 t0 _ ht).1 N (fun j => va_rf (f j))) rfl (fun q => by cases q) (by show ¬ (iI z < 0 ∨ (arrV _ _ _).slots.size ≤ _); rw [arrV_size]; exact hin) (by show (arrV _ _ _).slots[_]? = _; rw [arrV_read _ _ hlt]) rfl rfl hd ?_
    rw [iI_cl h0 (by omega), hf]
    exact kk H locs ls hP hD hS hl
end GR
end
section
/-! contracts over the worlds w x, and calls -/
def adr (ws : va_W) : Nat → Prop := fun q => ∃ (k : Nat) (e : va_E), ws[k]? = some (q, e)
def PcW {τ : Type} (D : va_G) (cl : List vw_C) (tys : List (ClassId × FieldType)) (w : τ → va_W) (x : τ) (av : List Value) : Array Value → State → Prop := va_Pc av (fun U => va_P D cl (w x) U.heap ∧ (va_K D cl tys U ∧ NW U) ∧ va_D (fun _ => True) (w x))
def QcW {τ : Type} (D : va_G) (cl : List vw_C) (w : τ → va_W) (x : τ) (post : Option Value → τ → Prop) : Array Value → State → Outcome → State → Prop := fun _ st oc t => (∃ (v : Option Value) (x' : τ), oc = .returned v ∧ post v x' ∧ va_P D cl (w x') t.heap) ∧ va_F (adr (w x)) st t
def MM {τ : Type} (l : Launch) (D : va_G) (cl : List vw_C) (tys : List (ClassId × FieldType)) (w : τ → va_W) (y : MethodName) (ws : List Cond) (rm : Room) (av : List Value) (x : τ) (post : Option Value → τ → Prop) : Prop := Met l y ws rm (PcW D cl tys w x av) (QcW D cl w x post) 0 0 (adr (w x))
def pI {τ : Type} (f : Int → τ → Prop) : Option Value → τ → Prop := fun v x => ∃ z, v = some (.int (iI z)) ∧ f z x
def pL {τ : Type} (f : Int → τ → Prop) : Option Value → τ → Prop := fun v x => ∃ z, v = some (.long (lI z)) ∧ f z x
def pV {τ : Type} (f : τ → Prop) : Option Value → τ → Prop := fun v x => v = none ∧ f x
/-- the cells stay where they are -/
def fixD {τ : Type} (w : τ → va_W) : Prop := ∀ (x x' : τ), (w x).map Prod.fst = (w x').map Prod.fst
theorem D_map {A : Nat → Prop} {w1 w2 : va_W} (h : w1.map Prod.fst = w2.map Prod.fst) (hD : va_D A w1) : va_D A w2 := by
  have key : ∀ (i : Nat) (q : Nat × va_E), w2[i]? = some q → ∃ q0, w1[i]? = some q0 ∧ q0.1 = q.1 := by
    intro i q hq
    have h1 : (w1.map Prod.fst)[i]? = some q.1 := by rw [h, List.getElem?_map, hq]; rfl
    rw [List.getElem?_map] at h1
    cases h2 : w1[i]? with
    | none => rw [h2] at h1; cases h1
    | some q0 => rw [h2] at h1; exact ⟨q0, rfl, Option.some.inj h1⟩
  refine ⟨fun i j x y hi hj hxy => ?_, fun k q hk => ?_⟩
  · obtain ⟨x0, h1, h2⟩ := key i x hi
    obtain ⟨y0, h3, h4⟩ := key j y hj
    exact hD.1 i j x0 y0 h1 h3 (h2.trans (hxy.trans h4.symm))
  · obtain ⟨q0, h1, h2⟩ := key k q hk
    rw [← h2]
    exact hD.2 k q0 h1
theorem blindW {τ : Type} {D : va_G} {cl : List vw_C} {tys : List (ClassId × FieldType)} {w : τ → va_W} {x : τ} {av : List Value} : FrameBlind (PcW D cl tys w x av) :=
  fun a U g mk q => ⟨q.1, q.2.1, ⟨va_K.moved (u := U) (U := U.calling g mk a) (Vm.Alike.refl U.vm) q.2.2.1.1, NW.same (u := U) (U := U.calling g mk a) rfl q.2.2.1.2⟩, q.2.2.2⟩
theorem MM.mk {τ : Type} {l : Launch} {D : va_G} {cl : List vw_C} {tys : List (ClassId × FieldType)} {w : τ → va_W} {y : MethodName} {rm : Room} {av : List Value} {x : τ} {post : Option Value → τ → Prop} {own : String} (cc : ByteArray) (maxL : Nat) (ret : Option FieldType) (hy : plainName y.cls = true) (ho : y.cls = own) (hal : (lg_sl av).length ≤ maxL)
    (body : ∀ (p : Program) (e : Env) (s : State) (m : MethodId) (args : Array Value) (below : List Frame) (meth : Method) (c : Code), CX p s m args c cc maxL own TT D cl tys → meth.sig.returnType = ret → meth.locks = false →
      GG p l e rm s m args below meth c D cl (adr (w x)) maxL 0 0 (MQ below (QcW D cl w x post) args s 0 0 (adr (w x))) w x (lv_args 0 av) 0 []) : MM l D cl tys w y (Cond.code y cc maxL ret :: TT) rm av x post := by
  refine Met.ofW (cc := cc) (maxL := maxL) (ret := ret) hy rfl ?_
  intro p e s m args below meth c s₁ B hml hv
  obtain ⟨rfl, hP, ⟨hK, hN⟩, hD⟩ := hv
  have hts := atoms_spec (ws := Cond.code y cc maxL ret :: TT) B.pre
  have hown : s.vm.findClass y.cls = some m.cls := findClass_of_methodNamed B.named
  rw [ho] at hown
  have hl := lv_entry av (n := maxL) hal
  rw [lg_entry_eq]
  exact body p e s m av.toArray below meth c ⟨B.exec, B.bytes, hml, hown, fun w hw => hts w (List.mem_cons_of_mem _ hw), hK, hN⟩ B.returns B.notSynchronized s.heap [] _ hP ⟨hD.1, fun k q hk => ⟨k, q.2, hk⟩⟩ va_S.rf hl
section GC
variable {τ : Type} {p : Program} {l : Launch} {e : Env} {R : Room} {s : State} {m : MethodId} {args : Array Value} {below : List Frame} {meth : Method} {c : Code} {D : va_G} {cl : List vw_C} {tys : List (ClassId × FieldType)} {A : Nat → Prop} {nL nc ns : Nat} {Q : State → Prop} {w : τ → va_W} {x x0 : τ} {cc : ByteArray} {own : String} {Ts : List Cond} {lv lv' : List (Nat × Value)} {pc n : Nat} {st : List Value} {post : Option Value → τ → Prop}
theorem g_iret (C : CX p s m args c cc nL own Ts D cl tys) (hr : meth.sig.returnType = some .int) (hk : meth.locks = false) {y : Int} (hd : decode cc pc = .ok (.ireturn, 1)) (hp : post (some (.int (iI y))) x) : GG p l e R s m args below meth c D cl (adr (w x0)) nL 0 0 (MQ below (QcW D cl w x0 post) args s 0 0 (adr (w x0))) w x lv pc [.int (iI y)] :=
  fun H locs ls hP hD hS hl => W.iret C.1 C.2.1 hr (fun t ht _ => ⟨⟨_, x, rfl, hp, by rw [ht]; exact hP⟩, hS.F ht⟩) hS.2.2 hd hk
theorem g_zret (C : CX p s m args c cc nL own Ts D cl tys) (hr : meth.sig.returnType = some .boolean) (hk : meth.locks = false) {y : Int} (hy : y = 0 ∨ y = 1) (hd : decode cc pc = .ok (.ireturn, 1)) (hp : post (some (.int (iI y))) x) : GG p l e R s m args below meth c D cl (adr (w x0)) nL 0 0 (MQ below (QcW D cl w x0 post) args s 0 0 (adr (w x0))) w x lv pc [.int (iI y)] :=
  fun H locs ls hP hD hS hl => W.zret C.1 C.2.1 hr (by rcases hy with rfl | rfl <;> decide +kernel) (fun t ht _ => ⟨⟨_, x, rfl, hp, by rw [ht]; exact hP⟩, hS.F ht⟩) hS.2.2 hd hk
theorem g_lret (C : CX p s m args c cc nL own Ts D cl tys) (hr : meth.sig.returnType = some .long) (hk : meth.locks = false) {y : Int} (hd : decode cc pc = .ok (.lreturn, 1)) (hp : post (some (.long (lI y))) x) : GG p l e R s m args below meth c D cl (adr (w x0)) nL 0 0 (MQ below (QcW D cl w x0 post) args s 0 0 (adr (w x0))) w x lv pc [.long (lI y)] :=
  fun H locs ls hP hD hS hl => W.lret C.1 C.2.1 hr (fun t ht _ => ⟨⟨_, x, rfl, hp, by rw [ht]; exact hP⟩, hS.F ht⟩) hS.2.2 hd hk
theorem g_vret (C : CX p s m args c cc nL own Ts D cl tys) (hr : meth.sig.returnType = none) (hk : meth.locks = false) (hd : decode cc pc = .ok (.return_, 1)) (hp : post none x) : GG p l e R s m args below meth c D cl (adr (w x0)) nL 0 0 (MQ below (QcW D cl w x0 post) args s 0 0 (adr (w x0))) w x lv pc [] :=
  fun H locs ls hP hD hS hl => W.vret C.1 C.2.1 hr (fun t ht _ => ⟨⟨_, x, rfl, hp, by rw [ht]; exact hP⟩, hS.F ht⟩) hS.2.2 hd hk
theorem g_run {a : Array Value} {st0 : List Value} (hfix : fixD w) (hn : pc + 3 = n) (hr : ∀ (H : Heap) (locs : List Loc) (ls : Array Slot), va_P D cl (w x) H → va_D A (w x) → lv_has ls nL lv → va_Run p l e R s m args below meth c H locs nc ns 0 0 (F0 m pc ls st0) st (QcW D cl w x post a) (adr (w x)))
    (k : ∀ (v : Option Value) (x' : τ), post v x' → GG p l e R s m args below meth c D cl A nL nc ns Q w x' lv n (v.toList ++ st)) : GG p l e R s m args below meth c D cl A nL nc ns Q w x lv pc st0 := by
  subst hn
  intro H locs ls hP hD hS hl T hT X
  obtain ⟨v, st₀, t, T', L, h0, X', hL, e1, e2, ⟨⟨v', x', hv, hp, hPx⟩, hz, hk⟩, go⟩ := hr H locs ls hP hD hl T hT X
  cases hv
  have hsub : ∀ q, adr (w x) q → A q := fun q hq => by
    obtain ⟨k9, e9, h9⟩ := hq
    exact hD.2 k9 _ h9
  rw [h0] at hz hk
  obtain ⟨t2, a1, b1⟩ := k v x' hp T'.heap (locs ++ L) ls (by rw [e1]; exact hPx) (D_map (hfix x x') hD) ⟨Nat.le_trans hS.1 (by rw [e1]; exact hz), fun q h1 h2 => by
      rw [e1, hk q (Nat.lt_of_lt_of_le h1 hS.1) (fun z => h2 (hsub q z))]; exact hS.2.1 q h1 h2, fun q hq => by
      rcases List.mem_append.mp hq with h | h
      · exact hS.2.2 q h
      · exact hsub _ (hL q h)⟩ hl T' rfl X'
  exact ⟨t2, go t2 a1, b1⟩
end GC
end
section
/-! calls that see a part of the world -/
section GF2
variable {p : Program} {l : Launch} {e : Env} {R : Room} {s : State} {m : MethodId} {args : Array Value} {below : List Frame} {meth : Method} {c : Code} {D : va_G} {cl : List vw_C} {tys : List (ClassId × FieldType)} {A : Nat → Prop} {nL nc ns : Nat} {Q : State → Prop} {cc : ByteArray} {own : String} {Ts : List Cond} {lv lv' : List (Nat × Value)} {pc n : Nat} {st st0 : List Value} {a : Array Value}
theorem P_left {w1 w2 : va_W} {H : Heap} (h : va_P D cl (w1 ++ w2) H) : va_P D cl w1 H := fun k q hk => h k q (by
  rw [List.getElem?_append_left (List.getElem?_eq_some_iff.mp hk).1]; exact hk)
theorem P_right {w1 w2 : va_W} {H : Heap} (h : va_P D cl (w1 ++ w2) H) : va_P D cl w2 H := fun k q hk => h (w1.length + k) q (by
  rw [List.getElem?_append_right (Nat.le_add_right _ _), Nat.add_sub_cancel_left]; exact hk)
theorem D_left {w1 w2 : va_W} (h : va_D A (w1 ++ w2)) : va_D A w1 := by
  have up : ∀ (k : Nat) (q : Nat × va_E), w1[k]? = some q → (w1 ++ w2)[k]? = some q := fun k q hk => by
    rw [List.getElem?_append_left (List.getElem?_eq_some_iff.mp hk).1]; exact hk
  exact ⟨fun i j x y hi hj hxy => h.1 i j x y (up i x hi) (up j y hj) hxy, fun k q hk => h.2 k q (up k q hk)⟩
theorem D_right {w1 w2 : va_W} (h : va_D A (w1 ++ w2)) : va_D A w2 := by
  have up : ∀ (k : Nat) (q : Nat × va_E), w2[k]? = some q → (w1 ++ w2)[w1.length + k]? = some q := fun k q hk => by
    rw [List.getElem?_append_right (Nat.le_add_right _ _), Nat.add_sub_cancel_left]; exact hk
  exact ⟨fun i j x y hi hj hxy => by have := h.1 _ _ x y (up i x hi) (up j y hj) hxy; omega, fun k q hk => h.2 _ q (up k q hk)⟩
theorem D_cross {w1 w2 : va_W} (h : va_D A (w1 ++ w2)) {q : Nat} (h1 : adr w1 q) (h2 : adr w2 q) : False := by
  obtain ⟨i, e1, g1⟩ := h1
  obtain ⟨j, e2, g2⟩ := h2
  have l1 := (List.getElem?_eq_some_iff.mp g1).1
  have := h.1 i (w1.length + j) (q, e1) (q, e2) (by rw [List.getElem?_append_left l1]; exact g1) (by rw [List.getElem?_append_right (Nat.le_add_right _ _), Nat.add_sub_cancel_left]; exact g2) rfl
  omega
/-- a call that sees the first part -/
theorem g_run1 {τ υ : Type} {w1 : τ → va_W} {w2 : υ → va_W} {x : τ} {y : υ} {post : Option Value → τ → Prop} (hfix : fixD w1) (hn : pc + 3 = n) (hr : ∀ (H : Heap) (locs : List Loc) (ls : Array Slot), va_P D cl (w1 x) H → va_D A (w1 x) → lv_has ls nL lv → va_Run p l e R s m args below meth c H locs nc ns 0 0 (F0 m pc ls st0) st (QcW D cl w1 x post a) (adr (w1 x)))
    (k : ∀ (v : Option Value) (x' : τ), post v x' → GG p l e R s m args below meth c D cl A nL nc ns Q (fun z : τ × υ => w1 z.1 ++ w2 z.2) (x', y) lv n (v.toList ++ st)) : GG p l e R s m args below meth c D cl A nL nc ns Q (fun z : τ × υ => w1 z.1 ++ w2 z.2) (x, y) lv pc st0 := by
  subst hn
  intro H locs ls hP hD hS hl T hT X
  have hP : va_P D cl (w1 x ++ w2 y) H := hP
  have hD : va_D A (w1 x ++ w2 y) := hD
  obtain ⟨v, st₀, t, T', L, h0, X', hL, e1, e2, ⟨⟨v', x', hv, hp, hPx⟩, hz, hk⟩, go⟩ := hr H locs ls (P_left hP) (D_left hD) hl T hT X
  cases hv
  have hsub : ∀ q, adr (w1 x) q → A q := fun q hq => by
    obtain ⟨k9, e9, h9⟩ := hq
    exact (D_left hD).2 k9 _ h9
  rw [h0] at hz hk
  have hP2 : va_P D cl (w2 y) t.heap := (P_right hP).kept (fun k9 q9 h9 => hk q9.1 ((P_right hP) k9 q9 h9).lt (fun z => D_cross hD z ⟨k9, q9.2, h9⟩))
  have hD2 : va_D A (w1 x' ++ w2 y) := D_map (by rw [List.map_append, List.map_append, hfix x x']) hD
  obtain ⟨t2, a1, b1⟩ := k v x' hp T'.heap (locs ++ L) ls (by rw [e1]; exact hPx.app hP2) hD2 ⟨Nat.le_trans hS.1 (by rw [e1]; exact hz), fun q h1 h2 => by
      rw [e1, hk q (Nat.lt_of_lt_of_le h1 hS.1) (fun z => h2 (hsub q z))]; exact hS.2.1 q h1 h2, fun q hq => by
      rcases List.mem_append.mp hq with h | h
      · exact hS.2.2 q h
      · exact hsub _ (hL q h)⟩ hl T' rfl X'
  exact ⟨t2, go t2 a1, b1⟩
/-- a call that sees the second part -/
theorem g_run2 {τ υ : Type} {w1 : τ → va_W} {w2 : υ → va_W} {x : τ} {y : υ} {post : Option Value → υ → Prop} (hfix : fixD w2) (hn : pc + 3 = n) (hr : ∀ (H : Heap) (locs : List Loc) (ls : Array Slot), va_P D cl (w2 y) H → va_D A (w2 y) → lv_has ls nL lv → va_Run p l e R s m args below meth c H locs nc ns 0 0 (F0 m pc ls st0) st (QcW D cl w2 y post a) (adr (w2 y)))
    (k : ∀ (v : Option Value) (y' : υ), post v y' → GG p l e R s m args below meth c D cl A nL nc ns Q (fun z : τ × υ => w1 z.1 ++ w2 z.2) (x, y') lv n (v.toList ++ st)) : GG p l e R s m args below meth c D cl A nL nc ns Q (fun z : τ × υ => w1 z.1 ++ w2 z.2) (x, y) lv pc st0 := by
  subst hn
  intro H locs ls hP hD hS hl T hT X
  have hP : va_P D cl (w1 x ++ w2 y) H := hP
  have hD : va_D A (w1 x ++ w2 y) := hD
  obtain ⟨v, st₀, t, T', L, h0, X', hL, e1, e2, ⟨⟨v', y', hv, hp, hPy⟩, hz, hk⟩, go⟩ := hr H locs ls (P_right hP) (D_right hD) hl T hT X
  cases hv
  have hsub : ∀ q, adr (w2 y) q → A q := fun q hq => by
    obtain ⟨k9, e9, h9⟩ := hq
    exact (D_right hD).2 k9 _ h9
  rw [h0] at hz hk
  have hP1 : va_P D cl (w1 x) t.heap := (P_left hP).kept (fun k9 q9 h9 => hk q9.1 ((P_left hP) k9 q9 h9).lt (fun z => D_cross hD ⟨k9, q9.2, h9⟩ z))
  have hD2 : va_D A (w1 x ++ w2 y') := D_map (by rw [List.map_append, List.map_append, hfix y y']) hD
  obtain ⟨t2, a1, b1⟩ := k v y' hp T'.heap (locs ++ L) ls (by rw [e1]; exact hP1.app hPy) hD2 ⟨Nat.le_trans hS.1 (by rw [e1]; exact hz), fun q h1 h2 => by
      rw [e1, hk q (Nat.lt_of_lt_of_le h1 hS.1) (fun z => h2 (hsub q z))]; exact hS.2.1 q h1 h2, fun q hq => by
      rcases List.mem_append.mp hq with h | h
      · exact hS.2.2 q h
      · exact hsub _ (hL q h)⟩ hl T' rfl X'
  exact ⟨t2, go t2 a1, b1⟩
/-- a call that sees one cell -/
theorem g_run0 {τ υ : Type} {w : τ → va_W} {x : τ} {q1 : Nat} {g : υ → va_E} {y : υ} {nx : υ → τ} {post : Option Value → υ → Prop} (k0 : Nat) (he : (w x)[k0]? = some (q1, g y)) (hw : ∀ y', post none y' → (w x).set k0 (q1, g y') = w (nx y')) (hv0 : ∀ v y', post v y' → v = none) (hn : pc + 3 = n) (hr : ∀ (H : Heap) (locs : List Loc) (ls : Array Slot), va_P D cl [(q1, g y)] H → va_D A [(q1, g y)] → lv_has ls nL lv → va_Run p l e R s m args below meth c H locs nc ns 0 0 (F0 m pc ls st0) st (QcW D cl (fun z => [(q1, g z)]) y post a) (adr [(q1, g y)]))
    (k : ∀ (y' : υ), post none y' → GG p l e R s m args below meth c D cl A nL nc ns Q w (nx y') lv n st) : GG p l e R s m args below meth c D cl A nL nc ns Q w x lv pc st0 := by
  subst hn
  intro H locs ls hP hD hS hl T hT X
  have one : ∀ (k : Nat) (q : Nat × va_E), ([(q1, g y)] : va_W)[k]? = some q → k = 0 ∧ q = (q1, g y) := fun k q h => by
    have h0 : k < 1 := (List.getElem?_eq_some_iff.mp h).1
    have : k = 0 := by omega
    subst this
    cases h
    exact ⟨rfl, rfl⟩
  obtain ⟨v, st₀, t, T', L, h0, X', hL, e1, e2, ⟨⟨v', y', hv, hp, hPy⟩, hz, hk⟩, go⟩ := hr H locs ls (fun k q h => by obtain ⟨-, rfl⟩ := one k q h; exact hP k0 _ he) ⟨fun i j x y hi hj _ => by rw [(one i x hi).1, (one j y hj).1], fun k q h => by obtain ⟨-, rfl⟩ := one k q h; exact hD.2 k0 _ he⟩ hl T hT X
  cases hv
  obtain rfl := hv0 _ _ hp
  have ha : ∀ q, adr [(q1, g y)] q → q = q1 := fun q hq => by
    obtain ⟨k9, e9, h9⟩ := hq
    have := (one k9 _ h9).2
    exact congrArg Prod.fst this
  have hq1 : A q1 := hD.2 k0 _ he
  rw [h0] at hz hk
  have hl0 := (List.getElem?_eq_some_iff.mp he).1
  have hP2 : va_P D cl (w (nx y')) t.heap := by
    rw [← hw y' hp]
    intro k9 q9 h9
    by_cases c : k9 = k0
    · subst c
      rw [List.getElem?_set_self hl0] at h9
      cases h9
      exact hPy 0 _ rfl
    · rw [List.getElem?_set_ne (Ne.symm c)] at h9
      exact (hP k9 q9 h9).kept (hk q9.1 (hP k9 q9 h9).lt (fun z => c (hD.1 k9 k0 q9 _ h9 he (ha _ z))))
  have hD2 : va_D A (w (nx y')) := by rw [← hw y' hp]; exact hD.set he
  obtain ⟨t2, a1, b1⟩ := k y' hp T'.heap (locs ++ L) ls (by rw [e1]; exact hP2) hD2 ⟨Nat.le_trans hS.1 (by rw [e1]; exact hz), fun q h1 h2 => by
      rw [e1, hk q (Nat.lt_of_lt_of_le h1 hS.1) (fun z => h2 (by rw [ha q z]; exact hq1))]; exact hS.2.1 q h1 h2, fun q hq => by
      rcases List.mem_append.mp hq with h | h
      · exact hS.2.2 q h
      · rw [ha _ (hL q h)]; exact hq1⟩ hl T' rfl X'
  exact ⟨t2, go t2 a1, b1⟩
end GF2
end
section
/-! calls by contract: own methods, nest mates' methods, static ones -/
section RN
variable {τ : Type} {p : Program} {l : Launch} {e : Env} {R : Room} {s : State} {m : MethodId} {args : Array Value} {below : List Frame} {meth : Method} {c : Code} {D : va_G} {cl : List vw_C} {tys : List (ClassId × FieldType)} {A : Nat → Prop} {nL nc ns : Nat} {w : τ → va_W} {x : τ} {cc : ByteArray} {own : String} {lv : List (Nat × Value)} {pc : Nat} {st st0 : List Value} {post : Option Value → τ → Prop}
variable {y : MethodName} {bytes : ByteArray} {maxL index b ci : Nat} {ret : Option FieldType} {rm : Room} {As : List Value} {fs : List Value} {q : vw_C} {host : String}
theorem preWV {H : Heap} (C : CX p s m args c cc nL own TT D cl tys) (hP : va_P D cl (w x) H) (hD : va_D A (w x)) (q0 : Nat) (he : (w x)[q0]? = some (b, .inr (ci, fs))) (hc : cl[ci]? = some q) (hq : q.1 = y.cls) : PreV s H y.cls b (PcW D cl tys w x (.ref b :: As)) As :=
  ⟨blindW, hq ▸ va_recv C.2.2.2.2.2.1 hP hc he, fun U hU hW => ⟨rfl, by rw [hU]; exact hP, ⟨va_K.moved hW.alike C.2.2.2.2.2.1, NW.warm hW C.2.2.2.2.2.2⟩, hD.weaken (fun _ _ _ _ => trivial)⟩⟩
theorem preWS {H : Heap} (C : CX p s m args c cc nL own TT D cl tys) (hP : va_P D cl (w x) H) (hD : va_D A (w x)) : PreS s H (PcW D cl tys w x As) As :=
  ⟨blindW, fun U hU hW => ⟨rfl, by rw [hU]; exact hP, ⟨va_K.moved hW.alike C.2.2.2.2.2.1, NW.warm hW C.2.2.2.2.2.2⟩, hD.weaken (fun _ _ _ _ => trivial)⟩⟩
/-- a method of an object of the same class -/
theorem rn_V (C : CX p s m args c cc nL own TT D cl tys) (hM : MM l D cl tys w y (Cond.code y bytes maxL ret :: TT) rm (.ref b :: As) x post) (q0 n : Nat) (he : (w x)[q0]? = some (b, .inr (ci, fs))) (hc : cl[ci]? = some q) (hq : q.1 = y.cls) (kc : Cond.code y bytes maxL ret ∈ TT) (kl : Cond.methodLink own index y ∈ TT) (ki : Cond.instanceMethod y ∈ TT) (kx : Cond.selects y.cls y y ∈ TT) (kn : Cond.initialized y.cls ∈ TT)
    (hy : y.cls ≠ "java/lang/invoke/MethodHandle" ∧ y.cls ≠ "java/lang/invoke/VarHandle" ∧ (parseMethodDescriptor y.desc).map (fun d => d.parameters.length) = some n) (hrm : rm.cells = 0 ∧ rm.slots = 0) (hR : rm.frames + 1 ≤ R.frames ∧ 8 + (maxL + 11) + rm.locals ≤ R.locals) (hf : nc ≤ R.cells ∧ ns ≤ R.slots) (hst : st0 = As.reverse ++ .ref b :: st) (hn : As.length = n) (hro : (st.map fun v => v.category).sum ≤ 8) (hd : decode cc pc = .ok (.invokevirtual index, 3)) :
    ∀ (H : Heap) (locs : List Loc) (ls : Array Slot), va_P D cl (w x) H → va_D A (w x) → lv_has ls nL lv → va_Run p l e R s m args below meth c H locs nc ns 0 0 (F0 m pc ls st0) st (QcW D cl w x post (Value.ref b :: As).toArray) (adr (w x)) :=
  fun H locs ls hP hD hl => va_runV (Ts := TT) ⟨C.1, C.2.1, C.2.2.1, C.2.2.2.1, C.2.2.2.2.1⟩ hM ⟨callB_of n C.2.2.2.2.1 (gd_law kc) rfl hrm.1 hrm.2 (C.2.2.2.2.1 _ kn) (C.2.2.2.2.1 _ kl) hy hR, C.2.2.2.2.1 _ ki, C.2.2.2.2.1 _ kx⟩ (preWV C hP hD q0 he hc hq) rfl hn hl.1 hst (lv_room hro) hd hf
/-- a method of a nest mate's object -/
theorem rn_VN (C : CX p s m args c cc nL own TT D cl tys) (hM : MM l D cl tys w y (Cond.code y bytes maxL ret :: TT) rm (.ref b :: As) x post) (q0 n : Nat) (he : (w x)[q0]? = some (b, .inr (ci, fs))) (hc : cl[ci]? = some q) (hq : q.1 = y.cls) (kc : Cond.code y bytes maxL ret ∈ TT) (kl : Cond.methodLinkNest own index y host ∈ NN) (ki : Cond.instanceMethod y ∈ TT) (kx : Cond.selects y.cls y y ∈ TT) (kn : Cond.initialized y.cls ∈ TT)
    (hy : y.cls ≠ "java/lang/invoke/MethodHandle" ∧ y.cls ≠ "java/lang/invoke/VarHandle" ∧ (parseMethodDescriptor y.desc).map (fun d => d.parameters.length) = some n) (hrm : rm.cells = 0 ∧ rm.slots = 0) (hR : rm.frames + 1 ≤ R.frames ∧ 8 + (maxL + 11) + rm.locals ≤ R.locals) (hf : nc ≤ R.cells ∧ ns ≤ R.slots) (hst : st0 = As.reverse ++ .ref b :: st) (hn : As.length = n) (hro : (st.map fun v => v.category).sum ≤ 8) (hd : decode cc pc = .ok (.invokevirtual index, 3)) :
    ∀ (H : Heap) (locs : List Loc) (ls : Array Slot), va_P D cl (w x) H → va_D A (w x) → lv_has ls nL lv → va_Run p l e R s m args below meth c H locs nc ns 0 0 (F0 m pc ls st0) st (QcW D cl w x post (Value.ref b :: As).toArray) (adr (w x)) :=
  fun H locs ls hP hD hl => va_runVN (Ts := TT) ⟨C.1, C.2.1, C.2.2.1, C.2.2.2.1, C.2.2.2.2.1⟩ hM ⟨va_cnB n C.2.2.2.2.1 (gd_law kc) rfl hrm.1 hrm.2 (C.2.2.2.2.2.2 _ kl) (C.2.2.2.2.1 _ kn) hy hR, C.2.2.2.2.1 _ ki, C.2.2.2.2.1 _ kx⟩ (preWV C hP hD q0 he hc hq) rfl hn hl.1 hst (lv_room hro) hd hf
/-- a static method -/
theorem rn_S (C : CX p s m args c cc nL own TT D cl tys) (hM : MM l D cl tys w y (Cond.code y bytes maxL ret :: TT) rm As x post) (n : Nat) (kc : Cond.code y bytes maxL ret ∈ TT) (kl : Cond.methodLink own index y ∈ TT) (ks : Cond.static y ∈ TT) (kn : Cond.initialized y.cls ∈ TT)
    (hy : y.cls ≠ "java/lang/invoke/MethodHandle" ∧ y.cls ≠ "java/lang/invoke/VarHandle" ∧ (parseMethodDescriptor y.desc).map (fun d => d.parameters.length) = some n) (hrm : rm.cells = 0 ∧ rm.slots = 0) (hR : rm.frames + 1 ≤ R.frames ∧ 8 + (maxL + 11) + rm.locals ≤ R.locals) (hf : nc ≤ R.cells ∧ ns ≤ R.slots) (hst : st0 = As.reverse ++ st) (hn : As.length = n) (hro : (st.map fun v => v.category).sum ≤ 8) (hd : decode cc pc = .ok (.invokestatic index, 3)) :
    ∀ (H : Heap) (locs : List Loc) (ls : Array Slot), va_P D cl (w x) H → va_D A (w x) → lv_has ls nL lv → va_Run p l e R s m args below meth c H locs nc ns 0 0 (F0 m pc ls st0) st (QcW D cl w x post As.toArray) (adr (w x)) :=
  fun H locs ls hP hD hl => va_runS (Ts := TT) ⟨C.1, C.2.1, C.2.2.1, C.2.2.2.1, C.2.2.2.2.1⟩ hM ⟨callB_of n C.2.2.2.2.1 (gd_law kc) rfl hrm.1 hrm.2 (C.2.2.2.2.1 _ kn) (C.2.2.2.2.1 _ kl) hy hR, C.2.2.2.2.1 _ ks⟩ (preWS C hP hD) rfl hn hl.1 hst (lv_room hro) hd hf
/-- a nest mate's static method -/
theorem rn_SN (C : CX p s m args c cc nL own TT D cl tys) (hM : MM l D cl tys w y (Cond.code y bytes maxL ret :: TT) rm As x post) (n : Nat) (kc : Cond.code y bytes maxL ret ∈ TT) (kl : Cond.methodLinkNest own index y host ∈ NN) (ks : Cond.static y ∈ TT) (kn : Cond.initialized y.cls ∈ TT)
    (hy : y.cls ≠ "java/lang/invoke/MethodHandle" ∧ y.cls ≠ "java/lang/invoke/VarHandle" ∧ (parseMethodDescriptor y.desc).map (fun d => d.parameters.length) = some n) (hrm : rm.cells = 0 ∧ rm.slots = 0) (hR : rm.frames + 1 ≤ R.frames ∧ 8 + (maxL + 11) + rm.locals ≤ R.locals) (hf : nc ≤ R.cells ∧ ns ≤ R.slots) (hst : st0 = As.reverse ++ st) (hn : As.length = n) (hro : (st.map fun v => v.category).sum ≤ 8) (hd : decode cc pc = .ok (.invokestatic index, 3)) :
    ∀ (H : Heap) (locs : List Loc) (ls : Array Slot), va_P D cl (w x) H → va_D A (w x) → lv_has ls nL lv → va_Run p l e R s m args below meth c H locs nc ns 0 0 (F0 m pc ls st0) st (QcW D cl w x post As.toArray) (adr (w x)) :=
  fun H locs ls hP hD hl => va_runSN (Ts := TT) ⟨C.1, C.2.1, C.2.2.1, C.2.2.2.1, C.2.2.2.2.1⟩ hM ⟨va_cnB n C.2.2.2.2.1 (gd_law kc) rfl hrm.1 hrm.2 (C.2.2.2.2.2.2 _ kl) (C.2.2.2.2.1 _ kn) hy hR, C.2.2.2.2.1 _ ks, trivial⟩ (preWS C hP hD) rfl hn hl.1 hst (lv_room hro) hd hf
end RN
end
section
/-! the cells of the system and of the reference: addresses a, array classes ki kz kl kq, contents S: place by place a row of numbers -/
def us (S : Nat → Int → Int) (j : Nat) (z v : Int) : Nat → Int → Int := fun i => if i = j then up_ (S i) z v else S i
theorem us_s {S : Nat → Int → Int} {j : Nat} {z v : Int} : us S j z v j = up_ (S j) z v := by simp [us]
theorem us_n {S : Nat → Int → Int} {i j : Nat} {z v : Int} (h : i ≠ j) : us S j z v i = S i := by simp [us, h]
def tyz (ki kz kl kq : ClassId) : List (ClassId × FieldType) := [(ki, .int), (kz, .boolean), (kl, .long), (kq, .array .int)]
def wX (a : Nat → Nat) (ki kz kl kq : ClassId) (S : Nat → Int → Int) : va_W := [(a 0, .inr (0, [.ref (a 1), .ref (a 17), .ref (a 19), .ref (a 27), .ref (a 22), .ref (a 24)])), (a 1, .inr (1, [.int (iI (S 0 0)), .int (iI (S 1 0)), .ref (a 2), .ref (a 3), .ref (a 4), .ref (a 5), .ref (a 6), .ref (a 7), .ref (a 16)])), (a 2, .inl (ki, 20, .inl (ia (S 2)))), (a 3, .inl (ki, 20, .inl (ia (S 3)))), (a 4, .inl (ki, 20, .inl (ia (S 4)))), (a 5, .inl (ki, 20, .inl (ia (S 5)))), (a 6, .inl (kz, 20, .inl (ia (S 6)))), (a 7, .inl (kq, 8, .inr (.inr (.inr (.inr (fun i => if i < 8 then some (a (8 + i)) else none)))))), (a 8, .inl (ki, 20, .inl (ia (S 8)))), (a 9, .inl (ki, 20, .inl (ia (S 9)))), (a 10, .inl (ki, 20, .inl (ia (S 10)))), (a 11, .inl (ki, 20, .inl (ia (S 11)))), (a 12, .inl (ki, 20, .inl (ia (S 12)))), (a 13, .inl (ki, 20, .inl (ia (S 13)))), (a 14, .inl (ki, 20, .inl (ia (S 14)))), (a 15, .inl (ki, 20, .inl (ia (S 15)))), (a 16, .inl (ki, 8, .inl (ia (S 7)))), (a 17, .inr (2, [.ref (a 18), .int (iI (S 17 0))])), (a 18, .inl (kl, 1458, .inr (.inl (la (S 16))))), (a 19, .inr (3, [.ref (a 1), .ref (a 17), .ref (a 20), .ref (a 21), .int (iI (S 20 0))])), (a 20, .inl (kz, 8, .inl (ia (S 18)))), (a 21, .inl (ki, 7, .inl (ia (S 19)))), (a 22, .inr (4, [.ref (a 23), .int (iI (S 31 0)), .int (iI (S 32 0)), .int (iI (S 33 0))])), (a 23, .inl (ki, 7, .inl (ia (S 30)))), (a 24, .inr (5, [.ref (a 25), .ref (a 26), .int (iI (S 36 0))])), (a 25, .inl (ki, 1458, .inl (ia (S 34)))), (a 26, .inl (ki, 1458, .inl (ia (S 35)))), (a 27, .inr (6, [.ref (a 1), .ref (a 28), .ref (a 29), .ref (a 30), .ref (a 31), .ref (a 32), .ref (a 33), .int (iI (S 27 0)), .int (iI (S 28 0)), .int (iI (S 29 0))])), (a 28, .inl (ki, 56, .inl (ia (S 21)))), (a 29, .inl (ki, 56, .inl (ia (S 22)))), (a 30, .inl (ki, 56, .inl (ia (S 23)))), (a 31, .inl (ki, 56, .inl (ia (S 24)))), (a 32, .inl (ki, 16, .inl (ia (S 25)))), (a 33, .inl (ki, 16, .inl (ia (S 26))))]
theorem wX_fix (a : Nat → Nat) (ki kz kl kq : ClassId) : fixD (wX a ki kz kl kq) := fun _ _ => rfl
section WX
variable {a : Nat → Nat} {ki kz kl kq : ClassId} {S : Nat → Int → Int} {z v : Int}
theorem wX_0 : (wX a ki kz kl kq S)[0]? = some (a 0, .inr (0, [.ref (a 1), .ref (a 17), .ref (a 19), .ref (a 27), .ref (a 22), .ref (a 24)])) := rfl
theorem wX_1 : (wX a ki kz kl kq S)[1]? = some (a 1, .inr (1, [.int (iI (S 0 0)), .int (iI (S 1 0)), .ref (a 2), .ref (a 3), .ref (a 4), .ref (a 5), .ref (a 6), .ref (a 7), .ref (a 16)])) := rfl
theorem wX_2 : (wX a ki kz kl kq S)[2]? = some (a 2, .inl (ki, 20, .inl (ia (S 2)))) := rfl
theorem wX_3 : (wX a ki kz kl kq S)[3]? = some (a 3, .inl (ki, 20, .inl (ia (S 3)))) := rfl
theorem wX_4 : (wX a ki kz kl kq S)[4]? = some (a 4, .inl (ki, 20, .inl (ia (S 4)))) := rfl
theorem wX_5 : (wX a ki kz kl kq S)[5]? = some (a 5, .inl (ki, 20, .inl (ia (S 5)))) := rfl
theorem wX_6 : (wX a ki kz kl kq S)[6]? = some (a 6, .inl (kz, 20, .inl (ia (S 6)))) := rfl
theorem wX_7 : (wX a ki kz kl kq S)[7]? = some (a 7, .inl (kq, 8, .inr (.inr (.inr (.inr (fun i => if i < 8 then some (a (8 + i)) else none)))))) := rfl
theorem wX_8 : (wX a ki kz kl kq S)[8]? = some (a 8, .inl (ki, 20, .inl (ia (S 8)))) := rfl
theorem wX_9 : (wX a ki kz kl kq S)[9]? = some (a 9, .inl (ki, 20, .inl (ia (S 9)))) := rfl
theorem wX_10 : (wX a ki kz kl kq S)[10]? = some (a 10, .inl (ki, 20, .inl (ia (S 10)))) := rfl
theorem wX_11 : (wX a ki kz kl kq S)[11]? = some (a 11, .inl (ki, 20, .inl (ia (S 11)))) := rfl
theorem wX_12 : (wX a ki kz kl kq S)[12]? = some (a 12, .inl (ki, 20, .inl (ia (S 12)))) := rfl
theorem wX_13 : (wX a ki kz kl kq S)[13]? = some (a 13, .inl (ki, 20, .inl (ia (S 13)))) := rfl
theorem wX_14 : (wX a ki kz kl kq S)[14]? = some (a 14, .inl (ki, 20, .inl (ia (S 14)))) := rfl
theorem wX_15 : (wX a ki kz kl kq S)[15]? = some (a 15, .inl (ki, 20, .inl (ia (S 15)))) := rfl
theorem wX_16 : (wX a ki kz kl kq S)[16]? = some (a 16, .inl (ki, 8, .inl (ia (S 7)))) := rfl
theorem wX_17 : (wX a ki kz kl kq S)[17]? = some (a 17, .inr (2, [.ref (a 18), .int (iI (S 17 0))])) := rfl
theorem wX_18 : (wX a ki kz kl kq S)[18]? = some (a 18, .inl (kl, 1458, .inr (.inl (la (S 16))))) := rfl
theorem wX_19 : (wX a ki kz kl kq S)[19]? = some (a 19, .inr (3, [.ref (a 1), .ref (a 17), .ref (a 20), .ref (a 21), .int (iI (S 20 0))])) := rfl
theorem wX_20 : (wX a ki kz kl kq S)[20]? = some (a 20, .inl (kz, 8, .inl (ia (S 18)))) := rfl
theorem wX_21 : (wX a ki kz kl kq S)[21]? = some (a 21, .inl (ki, 7, .inl (ia (S 19)))) := rfl
theorem wX_22 : (wX a ki kz kl kq S)[22]? = some (a 22, .inr (4, [.ref (a 23), .int (iI (S 31 0)), .int (iI (S 32 0)), .int (iI (S 33 0))])) := rfl
theorem wX_23 : (wX a ki kz kl kq S)[23]? = some (a 23, .inl (ki, 7, .inl (ia (S 30)))) := rfl
theorem wX_24 : (wX a ki kz kl kq S)[24]? = some (a 24, .inr (5, [.ref (a 25), .ref (a 26), .int (iI (S 36 0))])) := rfl
theorem wX_25 : (wX a ki kz kl kq S)[25]? = some (a 25, .inl (ki, 1458, .inl (ia (S 34)))) := rfl
theorem wX_26 : (wX a ki kz kl kq S)[26]? = some (a 26, .inl (ki, 1458, .inl (ia (S 35)))) := rfl
theorem wX_27 : (wX a ki kz kl kq S)[27]? = some (a 27, .inr (6, [.ref (a 1), .ref (a 28), .ref (a 29), .ref (a 30), .ref (a 31), .ref (a 32), .ref (a 33), .int (iI (S 27 0)), .int (iI (S 28 0)), .int (iI (S 29 0))])) := rfl
theorem wX_28 : (wX a ki kz kl kq S)[28]? = some (a 28, .inl (ki, 56, .inl (ia (S 21)))) := rfl
theorem wX_29 : (wX a ki kz kl kq S)[29]? = some (a 29, .inl (ki, 56, .inl (ia (S 22)))) := rfl
theorem wX_30 : (wX a ki kz kl kq S)[30]? = some (a 30, .inl (ki, 56, .inl (ia (S 23)))) := rfl
theorem wX_31 : (wX a ki kz kl kq S)[31]? = some (a 31, .inl (ki, 56, .inl (ia (S 24)))) := rfl
theorem wX_32 : (wX a ki kz kl kq S)[32]? = some (a 32, .inl (ki, 16, .inl (ia (S 25)))) := rfl
theorem wX_33 : (wX a ki kz kl kq S)[33]? = some (a 33, .inl (ki, 16, .inl (ia (S 26)))) := rfl
theorem wX_p1_0 : (wX a ki kz kl kq S).set 1 (a 1, .inr (1, [.int (iI (S 0 0)), .int (iI (S 1 0)), .ref (a 2), .ref (a 3), .ref (a 4), .ref (a 5), .ref (a 6), .ref (a 7), .ref (a 16)].set 0 (.int (iI v)))) = wX a ki kz kl kq (us S 0 0 v) := rfl
theorem wX_p1_1 : (wX a ki kz kl kq S).set 1 (a 1, .inr (1, [.int (iI (S 0 0)), .int (iI (S 1 0)), .ref (a 2), .ref (a 3), .ref (a 4), .ref (a 5), .ref (a 6), .ref (a 7), .ref (a 16)].set 1 (.int (iI v)))) = wX a ki kz kl kq (us S 1 0 v) := rfl
theorem wX_s2 : (wX a ki kz kl kq S).set 2 (a 2, .inl (ki, 20, .inl (ia (up_ (S 2) z v)))) = wX a ki kz kl kq (us S 2 z v) := rfl
theorem wX_s3 : (wX a ki kz kl kq S).set 3 (a 3, .inl (ki, 20, .inl (ia (up_ (S 3) z v)))) = wX a ki kz kl kq (us S 3 z v) := rfl
theorem wX_s4 : (wX a ki kz kl kq S).set 4 (a 4, .inl (ki, 20, .inl (ia (up_ (S 4) z v)))) = wX a ki kz kl kq (us S 4 z v) := rfl
theorem wX_s5 : (wX a ki kz kl kq S).set 5 (a 5, .inl (ki, 20, .inl (ia (up_ (S 5) z v)))) = wX a ki kz kl kq (us S 5 z v) := rfl
theorem wX_s6 : (wX a ki kz kl kq S).set 6 (a 6, .inl (kz, 20, .inl (ia (up_ (S 6) z v)))) = wX a ki kz kl kq (us S 6 z v) := rfl
theorem wX_s8 : (wX a ki kz kl kq S).set 8 (a 8, .inl (ki, 20, .inl (ia (up_ (S 8) z v)))) = wX a ki kz kl kq (us S 8 z v) := rfl
theorem wX_s9 : (wX a ki kz kl kq S).set 9 (a 9, .inl (ki, 20, .inl (ia (up_ (S 9) z v)))) = wX a ki kz kl kq (us S 9 z v) := rfl
theorem wX_s10 : (wX a ki kz kl kq S).set 10 (a 10, .inl (ki, 20, .inl (ia (up_ (S 10) z v)))) = wX a ki kz kl kq (us S 10 z v) := rfl
theorem wX_s11 : (wX a ki kz kl kq S).set 11 (a 11, .inl (ki, 20, .inl (ia (up_ (S 11) z v)))) = wX a ki kz kl kq (us S 11 z v) := rfl
theorem wX_s12 : (wX a ki kz kl kq S).set 12 (a 12, .inl (ki, 20, .inl (ia (up_ (S 12) z v)))) = wX a ki kz kl kq (us S 12 z v) := rfl
theorem wX_s13 : (wX a ki kz kl kq S).set 13 (a 13, .inl (ki, 20, .inl (ia (up_ (S 13) z v)))) = wX a ki kz kl kq (us S 13 z v) := rfl
theorem wX_s14 : (wX a ki kz kl kq S).set 14 (a 14, .inl (ki, 20, .inl (ia (up_ (S 14) z v)))) = wX a ki kz kl kq (us S 14 z v) := rfl
theorem wX_s15 : (wX a ki kz kl kq S).set 15 (a 15, .inl (ki, 20, .inl (ia (up_ (S 15) z v)))) = wX a ki kz kl kq (us S 15 z v) := rfl
theorem wX_s16 : (wX a ki kz kl kq S).set 16 (a 16, .inl (ki, 8, .inl (ia (up_ (S 7) z v)))) = wX a ki kz kl kq (us S 7 z v) := rfl
theorem wX_p17_1 : (wX a ki kz kl kq S).set 17 (a 17, .inr (2, [.ref (a 18), .int (iI (S 17 0))].set 1 (.int (iI v)))) = wX a ki kz kl kq (us S 17 0 v) := rfl
theorem wX_s18 : (wX a ki kz kl kq S).set 18 (a 18, .inl (kl, 1458, .inr (.inl (la (up_ (S 16) z v))))) = wX a ki kz kl kq (us S 16 z v) := rfl
theorem wX_p19_4 : (wX a ki kz kl kq S).set 19 (a 19, .inr (3, [.ref (a 1), .ref (a 17), .ref (a 20), .ref (a 21), .int (iI (S 20 0))].set 4 (.int (iI v)))) = wX a ki kz kl kq (us S 20 0 v) := rfl
theorem wX_s20 : (wX a ki kz kl kq S).set 20 (a 20, .inl (kz, 8, .inl (ia (up_ (S 18) z v)))) = wX a ki kz kl kq (us S 18 z v) := rfl
theorem wX_s21 : (wX a ki kz kl kq S).set 21 (a 21, .inl (ki, 7, .inl (ia (up_ (S 19) z v)))) = wX a ki kz kl kq (us S 19 z v) := rfl
theorem wX_p22_1 : (wX a ki kz kl kq S).set 22 (a 22, .inr (4, [.ref (a 23), .int (iI (S 31 0)), .int (iI (S 32 0)), .int (iI (S 33 0))].set 1 (.int (iI v)))) = wX a ki kz kl kq (us S 31 0 v) := rfl
theorem wX_p22_2 : (wX a ki kz kl kq S).set 22 (a 22, .inr (4, [.ref (a 23), .int (iI (S 31 0)), .int (iI (S 32 0)), .int (iI (S 33 0))].set 2 (.int (iI v)))) = wX a ki kz kl kq (us S 32 0 v) := rfl
theorem wX_p22_3 : (wX a ki kz kl kq S).set 22 (a 22, .inr (4, [.ref (a 23), .int (iI (S 31 0)), .int (iI (S 32 0)), .int (iI (S 33 0))].set 3 (.int (iI v)))) = wX a ki kz kl kq (us S 33 0 v) := rfl
theorem wX_s23 : (wX a ki kz kl kq S).set 23 (a 23, .inl (ki, 7, .inl (ia (up_ (S 30) z v)))) = wX a ki kz kl kq (us S 30 z v) := rfl
theorem wX_p24_2 : (wX a ki kz kl kq S).set 24 (a 24, .inr (5, [.ref (a 25), .ref (a 26), .int (iI (S 36 0))].set 2 (.int (iI v)))) = wX a ki kz kl kq (us S 36 0 v) := rfl
theorem wX_s25 : (wX a ki kz kl kq S).set 25 (a 25, .inl (ki, 1458, .inl (ia (up_ (S 34) z v)))) = wX a ki kz kl kq (us S 34 z v) := rfl
theorem wX_s26 : (wX a ki kz kl kq S).set 26 (a 26, .inl (ki, 1458, .inl (ia (up_ (S 35) z v)))) = wX a ki kz kl kq (us S 35 z v) := rfl
theorem wX_p27_7 : (wX a ki kz kl kq S).set 27 (a 27, .inr (6, [.ref (a 1), .ref (a 28), .ref (a 29), .ref (a 30), .ref (a 31), .ref (a 32), .ref (a 33), .int (iI (S 27 0)), .int (iI (S 28 0)), .int (iI (S 29 0))].set 7 (.int (iI v)))) = wX a ki kz kl kq (us S 27 0 v) := rfl
theorem wX_p27_8 : (wX a ki kz kl kq S).set 27 (a 27, .inr (6, [.ref (a 1), .ref (a 28), .ref (a 29), .ref (a 30), .ref (a 31), .ref (a 32), .ref (a 33), .int (iI (S 27 0)), .int (iI (S 28 0)), .int (iI (S 29 0))].set 8 (.int (iI v)))) = wX a ki kz kl kq (us S 28 0 v) := rfl
theorem wX_p27_9 : (wX a ki kz kl kq S).set 27 (a 27, .inr (6, [.ref (a 1), .ref (a 28), .ref (a 29), .ref (a 30), .ref (a 31), .ref (a 32), .ref (a 33), .int (iI (S 27 0)), .int (iI (S 28 0)), .int (iI (S 29 0))].set 9 (.int (iI v)))) = wX a ki kz kl kq (us S 29 0 v) := rfl
theorem wX_s28 : (wX a ki kz kl kq S).set 28 (a 28, .inl (ki, 56, .inl (ia (up_ (S 21) z v)))) = wX a ki kz kl kq (us S 21 z v) := rfl
theorem wX_s29 : (wX a ki kz kl kq S).set 29 (a 29, .inl (ki, 56, .inl (ia (up_ (S 22) z v)))) = wX a ki kz kl kq (us S 22 z v) := rfl
theorem wX_s30 : (wX a ki kz kl kq S).set 30 (a 30, .inl (ki, 56, .inl (ia (up_ (S 23) z v)))) = wX a ki kz kl kq (us S 23 z v) := rfl
theorem wX_s31 : (wX a ki kz kl kq S).set 31 (a 31, .inl (ki, 56, .inl (ia (up_ (S 24) z v)))) = wX a ki kz kl kq (us S 24 z v) := rfl
theorem wX_s32 : (wX a ki kz kl kq S).set 32 (a 32, .inl (ki, 16, .inl (ia (up_ (S 25) z v)))) = wX a ki kz kl kq (us S 25 z v) := rfl
theorem wX_s33 : (wX a ki kz kl kq S).set 33 (a 33, .inl (ki, 16, .inl (ia (up_ (S 26) z v)))) = wX a ki kz kl kq (us S 26 z v) := rfl
end WX
def wY (a : Nat → Nat) (ki kz kl kq : ClassId) (S : Nat → Int → Int) : va_W := [(a 0, .inr (7, [.int (iI (S 0 0)), .int (iI (S 1 0)), .ref (a 1), .ref (a 2), .ref (a 3), .ref (a 4), .ref (a 5), .int (iI (S 7 0)), .ref (a 6), .ref (a 7), .ref (a 8), .ref (a 9), .ref (a 10), .ref (a 11), .int (iI (S 14 0)), .int (iI (S 15 0)), .int (iI (S 16 0)), .int (iI (S 17 0)), .long (lI (S 18 0)), .int (iI (S 19 0)), .ref (a 12), .ref (a 13), .ref (a 14), .ref (a 15), .ref (a 16), .ref (a 17), .ref (a 18), .ref (a 19)])), (a 1, .inl (ki, 20, .inl (ia (S 2)))), (a 2, .inl (ki, 20, .inl (ia (S 3)))), (a 3, .inl (ki, 20, .inl (ia (S 4)))), (a 4, .inl (ki, 20, .inl (ia (S 5)))), (a 5, .inl (kz, 20, .inl (ia (S 6)))), (a 6, .inl (ki, 4000, .inl (ia (S 8)))), (a 7, .inl (ki, 4000, .inl (ia (S 9)))), (a 8, .inl (kl, 4000, .inr (.inl (la (S 10))))), (a 9, .inl (ki, 4000, .inl (ia (S 11)))), (a 10, .inl (ki, 4000, .inl (ia (S 12)))), (a 11, .inl (ki, 4000, .inl (ia (S 13)))), (a 12, .inl (ki, 4000, .inl (ia (S 20)))), (a 13, .inl (ki, 4000, .inl (ia (S 21)))), (a 14, .inl (ki, 8, .inl (ia (S 22)))), (a 15, .inl (ki, 8, .inl (ia (S 23)))), (a 16, .inl (ki, 6, .inl (ia (S 24)))), (a 17, .inl (ki, 6, .inl (ia (S 25)))), (a 18, .inl (ki, 6, .inl (ia (S 26)))), (a 19, .inl (ki, 6, .inl (ia (S 27))))]
theorem wY_fix (a : Nat → Nat) (ki kz kl kq : ClassId) : fixD (wY a ki kz kl kq) := fun _ _ => rfl
section WY
variable {a : Nat → Nat} {ki kz kl kq : ClassId} {S : Nat → Int → Int} {z v : Int}
theorem wY_0 : (wY a ki kz kl kq S)[0]? = some (a 0, .inr (7, [.int (iI (S 0 0)), .int (iI (S 1 0)), .ref (a 1), .ref (a 2), .ref (a 3), .ref (a 4), .ref (a 5), .int (iI (S 7 0)), .ref (a 6), .ref (a 7), .ref (a 8), .ref (a 9), .ref (a 10), .ref (a 11), .int (iI (S 14 0)), .int (iI (S 15 0)), .int (iI (S 16 0)), .int (iI (S 17 0)), .long (lI (S 18 0)), .int (iI (S 19 0)), .ref (a 12), .ref (a 13), .ref (a 14), .ref (a 15), .ref (a 16), .ref (a 17), .ref (a 18), .ref (a 19)])) := rfl
theorem wY_1 : (wY a ki kz kl kq S)[1]? = some (a 1, .inl (ki, 20, .inl (ia (S 2)))) := rfl
theorem wY_2 : (wY a ki kz kl kq S)[2]? = some (a 2, .inl (ki, 20, .inl (ia (S 3)))) := rfl
theorem wY_3 : (wY a ki kz kl kq S)[3]? = some (a 3, .inl (ki, 20, .inl (ia (S 4)))) := rfl
theorem wY_4 : (wY a ki kz kl kq S)[4]? = some (a 4, .inl (ki, 20, .inl (ia (S 5)))) := rfl
theorem wY_5 : (wY a ki kz kl kq S)[5]? = some (a 5, .inl (kz, 20, .inl (ia (S 6)))) := rfl
theorem wY_6 : (wY a ki kz kl kq S)[6]? = some (a 6, .inl (ki, 4000, .inl (ia (S 8)))) := rfl
theorem wY_7 : (wY a ki kz kl kq S)[7]? = some (a 7, .inl (ki, 4000, .inl (ia (S 9)))) := rfl
theorem wY_8 : (wY a ki kz kl kq S)[8]? = some (a 8, .inl (kl, 4000, .inr (.inl (la (S 10))))) := rfl
theorem wY_9 : (wY a ki kz kl kq S)[9]? = some (a 9, .inl (ki, 4000, .inl (ia (S 11)))) := rfl
theorem wY_10 : (wY a ki kz kl kq S)[10]? = some (a 10, .inl (ki, 4000, .inl (ia (S 12)))) := rfl
theorem wY_11 : (wY a ki kz kl kq S)[11]? = some (a 11, .inl (ki, 4000, .inl (ia (S 13)))) := rfl
theorem wY_12 : (wY a ki kz kl kq S)[12]? = some (a 12, .inl (ki, 4000, .inl (ia (S 20)))) := rfl
theorem wY_13 : (wY a ki kz kl kq S)[13]? = some (a 13, .inl (ki, 4000, .inl (ia (S 21)))) := rfl
theorem wY_14 : (wY a ki kz kl kq S)[14]? = some (a 14, .inl (ki, 8, .inl (ia (S 22)))) := rfl
theorem wY_15 : (wY a ki kz kl kq S)[15]? = some (a 15, .inl (ki, 8, .inl (ia (S 23)))) := rfl
theorem wY_16 : (wY a ki kz kl kq S)[16]? = some (a 16, .inl (ki, 6, .inl (ia (S 24)))) := rfl
theorem wY_17 : (wY a ki kz kl kq S)[17]? = some (a 17, .inl (ki, 6, .inl (ia (S 25)))) := rfl
theorem wY_18 : (wY a ki kz kl kq S)[18]? = some (a 18, .inl (ki, 6, .inl (ia (S 26)))) := rfl
theorem wY_19 : (wY a ki kz kl kq S)[19]? = some (a 19, .inl (ki, 6, .inl (ia (S 27)))) := rfl
theorem wY_p0_0 : (wY a ki kz kl kq S).set 0 (a 0, .inr (7, [.int (iI (S 0 0)), .int (iI (S 1 0)), .ref (a 1), .ref (a 2), .ref (a 3), .ref (a 4), .ref (a 5), .int (iI (S 7 0)), .ref (a 6), .ref (a 7), .ref (a 8), .ref (a 9), .ref (a 10), .ref (a 11), .int (iI (S 14 0)), .int (iI (S 15 0)), .int (iI (S 16 0)), .int (iI (S 17 0)), .long (lI (S 18 0)), .int (iI (S 19 0)), .ref (a 12), .ref (a 13), .ref (a 14), .ref (a 15), .ref (a 16), .ref (a 17), .ref (a 18), .ref (a 19)].set 0 (.int (iI v)))) = wY a ki kz kl kq (us S 0 0 v) := rfl
theorem wY_p0_1 : (wY a ki kz kl kq S).set 0 (a 0, .inr (7, [.int (iI (S 0 0)), .int (iI (S 1 0)), .ref (a 1), .ref (a 2), .ref (a 3), .ref (a 4), .ref (a 5), .int (iI (S 7 0)), .ref (a 6), .ref (a 7), .ref (a 8), .ref (a 9), .ref (a 10), .ref (a 11), .int (iI (S 14 0)), .int (iI (S 15 0)), .int (iI (S 16 0)), .int (iI (S 17 0)), .long (lI (S 18 0)), .int (iI (S 19 0)), .ref (a 12), .ref (a 13), .ref (a 14), .ref (a 15), .ref (a 16), .ref (a 17), .ref (a 18), .ref (a 19)].set 1 (.int (iI v)))) = wY a ki kz kl kq (us S 1 0 v) := rfl
theorem wY_p0_7 : (wY a ki kz kl kq S).set 0 (a 0, .inr (7, [.int (iI (S 0 0)), .int (iI (S 1 0)), .ref (a 1), .ref (a 2), .ref (a 3), .ref (a 4), .ref (a 5), .int (iI (S 7 0)), .ref (a 6), .ref (a 7), .ref (a 8), .ref (a 9), .ref (a 10), .ref (a 11), .int (iI (S 14 0)), .int (iI (S 15 0)), .int (iI (S 16 0)), .int (iI (S 17 0)), .long (lI (S 18 0)), .int (iI (S 19 0)), .ref (a 12), .ref (a 13), .ref (a 14), .ref (a 15), .ref (a 16), .ref (a 17), .ref (a 18), .ref (a 19)].set 7 (.int (iI v)))) = wY a ki kz kl kq (us S 7 0 v) := rfl
theorem wY_p0_14 : (wY a ki kz kl kq S).set 0 (a 0, .inr (7, [.int (iI (S 0 0)), .int (iI (S 1 0)), .ref (a 1), .ref (a 2), .ref (a 3), .ref (a 4), .ref (a 5), .int (iI (S 7 0)), .ref (a 6), .ref (a 7), .ref (a 8), .ref (a 9), .ref (a 10), .ref (a 11), .int (iI (S 14 0)), .int (iI (S 15 0)), .int (iI (S 16 0)), .int (iI (S 17 0)), .long (lI (S 18 0)), .int (iI (S 19 0)), .ref (a 12), .ref (a 13), .ref (a 14), .ref (a 15), .ref (a 16), .ref (a 17), .ref (a 18), .ref (a 19)].set 14 (.int (iI v)))) = wY a ki kz kl kq (us S 14 0 v) := rfl
theorem wY_p0_15 : (wY a ki kz kl kq S).set 0 (a 0, .inr (7, [.int (iI (S 0 0)), .int (iI (S 1 0)), .ref (a 1), .ref (a 2), .ref (a 3), .ref (a 4), .ref (a 5), .int (iI (S 7 0)), .ref (a 6), .ref (a 7), .ref (a 8), .ref (a 9), .ref (a 10), .ref (a 11), .int (iI (S 14 0)), .int (iI (S 15 0)), .int (iI (S 16 0)), .int (iI (S 17 0)), .long (lI (S 18 0)), .int (iI (S 19 0)), .ref (a 12), .ref (a 13), .ref (a 14), .ref (a 15), .ref (a 16), .ref (a 17), .ref (a 18), .ref (a 19)].set 15 (.int (iI v)))) = wY a ki kz kl kq (us S 15 0 v) := rfl
theorem wY_p0_16 : (wY a ki kz kl kq S).set 0 (a 0, .inr (7, [.int (iI (S 0 0)), .int (iI (S 1 0)), .ref (a 1), .ref (a 2), .ref (a 3), .ref (a 4), .ref (a 5), .int (iI (S 7 0)), .ref (a 6), .ref (a 7), .ref (a 8), .ref (a 9), .ref (a 10), .ref (a 11), .int (iI (S 14 0)), .int (iI (S 15 0)), .int (iI (S 16 0)), .int (iI (S 17 0)), .long (lI (S 18 0)), .int (iI (S 19 0)), .ref (a 12), .ref (a 13), .ref (a 14), .ref (a 15), .ref (a 16), .ref (a 17), .ref (a 18), .ref (a 19)].set 16 (.int (iI v)))) = wY a ki kz kl kq (us S 16 0 v) := rfl
theorem wY_p0_17 : (wY a ki kz kl kq S).set 0 (a 0, .inr (7, [.int (iI (S 0 0)), .int (iI (S 1 0)), .ref (a 1), .ref (a 2), .ref (a 3), .ref (a 4), .ref (a 5), .int (iI (S 7 0)), .ref (a 6), .ref (a 7), .ref (a 8), .ref (a 9), .ref (a 10), .ref (a 11), .int (iI (S 14 0)), .int (iI (S 15 0)), .int (iI (S 16 0)), .int (iI (S 17 0)), .long (lI (S 18 0)), .int (iI (S 19 0)), .ref (a 12), .ref (a 13), .ref (a 14), .ref (a 15), .ref (a 16), .ref (a 17), .ref (a 18), .ref (a 19)].set 17 (.int (iI v)))) = wY a ki kz kl kq (us S 17 0 v) := rfl
theorem wY_p0_18 : (wY a ki kz kl kq S).set 0 (a 0, .inr (7, [.int (iI (S 0 0)), .int (iI (S 1 0)), .ref (a 1), .ref (a 2), .ref (a 3), .ref (a 4), .ref (a 5), .int (iI (S 7 0)), .ref (a 6), .ref (a 7), .ref (a 8), .ref (a 9), .ref (a 10), .ref (a 11), .int (iI (S 14 0)), .int (iI (S 15 0)), .int (iI (S 16 0)), .int (iI (S 17 0)), .long (lI (S 18 0)), .int (iI (S 19 0)), .ref (a 12), .ref (a 13), .ref (a 14), .ref (a 15), .ref (a 16), .ref (a 17), .ref (a 18), .ref (a 19)].set 18 (.long (lI v)))) = wY a ki kz kl kq (us S 18 0 v) := rfl
theorem wY_p0_19 : (wY a ki kz kl kq S).set 0 (a 0, .inr (7, [.int (iI (S 0 0)), .int (iI (S 1 0)), .ref (a 1), .ref (a 2), .ref (a 3), .ref (a 4), .ref (a 5), .int (iI (S 7 0)), .ref (a 6), .ref (a 7), .ref (a 8), .ref (a 9), .ref (a 10), .ref (a 11), .int (iI (S 14 0)), .int (iI (S 15 0)), .int (iI (S 16 0)), .int (iI (S 17 0)), .long (lI (S 18 0)), .int (iI (S 19 0)), .ref (a 12), .ref (a 13), .ref (a 14), .ref (a 15), .ref (a 16), .ref (a 17), .ref (a 18), .ref (a 19)].set 19 (.int (iI v)))) = wY a ki kz kl kq (us S 19 0 v) := rfl
theorem wY_s1 : (wY a ki kz kl kq S).set 1 (a 1, .inl (ki, 20, .inl (ia (up_ (S 2) z v)))) = wY a ki kz kl kq (us S 2 z v) := rfl
theorem wY_s2 : (wY a ki kz kl kq S).set 2 (a 2, .inl (ki, 20, .inl (ia (up_ (S 3) z v)))) = wY a ki kz kl kq (us S 3 z v) := rfl
theorem wY_s3 : (wY a ki kz kl kq S).set 3 (a 3, .inl (ki, 20, .inl (ia (up_ (S 4) z v)))) = wY a ki kz kl kq (us S 4 z v) := rfl
theorem wY_s4 : (wY a ki kz kl kq S).set 4 (a 4, .inl (ki, 20, .inl (ia (up_ (S 5) z v)))) = wY a ki kz kl kq (us S 5 z v) := rfl
theorem wY_s5 : (wY a ki kz kl kq S).set 5 (a 5, .inl (kz, 20, .inl (ia (up_ (S 6) z v)))) = wY a ki kz kl kq (us S 6 z v) := rfl
theorem wY_s6 : (wY a ki kz kl kq S).set 6 (a 6, .inl (ki, 4000, .inl (ia (up_ (S 8) z v)))) = wY a ki kz kl kq (us S 8 z v) := rfl
theorem wY_s7 : (wY a ki kz kl kq S).set 7 (a 7, .inl (ki, 4000, .inl (ia (up_ (S 9) z v)))) = wY a ki kz kl kq (us S 9 z v) := rfl
theorem wY_s8 : (wY a ki kz kl kq S).set 8 (a 8, .inl (kl, 4000, .inr (.inl (la (up_ (S 10) z v))))) = wY a ki kz kl kq (us S 10 z v) := rfl
theorem wY_s9 : (wY a ki kz kl kq S).set 9 (a 9, .inl (ki, 4000, .inl (ia (up_ (S 11) z v)))) = wY a ki kz kl kq (us S 11 z v) := rfl
theorem wY_s10 : (wY a ki kz kl kq S).set 10 (a 10, .inl (ki, 4000, .inl (ia (up_ (S 12) z v)))) = wY a ki kz kl kq (us S 12 z v) := rfl
theorem wY_s11 : (wY a ki kz kl kq S).set 11 (a 11, .inl (ki, 4000, .inl (ia (up_ (S 13) z v)))) = wY a ki kz kl kq (us S 13 z v) := rfl
theorem wY_s12 : (wY a ki kz kl kq S).set 12 (a 12, .inl (ki, 4000, .inl (ia (up_ (S 20) z v)))) = wY a ki kz kl kq (us S 20 z v) := rfl
theorem wY_s13 : (wY a ki kz kl kq S).set 13 (a 13, .inl (ki, 4000, .inl (ia (up_ (S 21) z v)))) = wY a ki kz kl kq (us S 21 z v) := rfl
theorem wY_s14 : (wY a ki kz kl kq S).set 14 (a 14, .inl (ki, 8, .inl (ia (up_ (S 22) z v)))) = wY a ki kz kl kq (us S 22 z v) := rfl
theorem wY_s15 : (wY a ki kz kl kq S).set 15 (a 15, .inl (ki, 8, .inl (ia (up_ (S 23) z v)))) = wY a ki kz kl kq (us S 23 z v) := rfl
theorem wY_s16 : (wY a ki kz kl kq S).set 16 (a 16, .inl (ki, 6, .inl (ia (up_ (S 24) z v)))) = wY a ki kz kl kq (us S 24 z v) := rfl
theorem wY_s17 : (wY a ki kz kl kq S).set 17 (a 17, .inl (ki, 6, .inl (ia (up_ (S 25) z v)))) = wY a ki kz kl kq (us S 25 z v) := rfl
theorem wY_s18 : (wY a ki kz kl kq S).set 18 (a 18, .inl (ki, 6, .inl (ia (up_ (S 26) z v)))) = wY a ki kz kl kq (us S 26 z v) := rfl
theorem wY_s19 : (wY a ki kz kl kq S).set 19 (a 19, .inl (ki, 6, .inl (ia (up_ (S 27) z v)))) = wY a ki kz kl kq (us S 27 z v) := rfl
end WY
end
section
/-! rooms, descriptors; calls by the kind of their answer; the rows of the grid -/
abbrev rm_N_init : Room := { frames := 2, cells := 0, slots := 0, locals := 42 }
theorem hy_N_init : y_N_init.cls ≠ "java/lang/invoke/MethodHandle" ∧ y_N_init.cls ≠ "java/lang/invoke/VarHandle" ∧ (parseMethodDescriptor y_N_init.desc).map (fun d => d.parameters.length) = some 0 := by decide +kernel
abbrev rm_N_clear : Room := { frames := 2, cells := 0, slots := 0, locals := 43 }
theorem hy_N_clear : y_N_clear.cls ≠ "java/lang/invoke/MethodHandle" ∧ y_N_clear.cls ≠ "java/lang/invoke/VarHandle" ∧ (parseMethodDescriptor y_N_clear.desc).map (fun d => d.parameters.length) = some 0 := by decide +kernel
abbrev rm_N_node : Room := { frames := 1, cells := 0, slots := 0, locals := 20 }
theorem hy_N_node : y_N_node.cls ≠ "java/lang/invoke/MethodHandle" ∧ y_N_node.cls ≠ "java/lang/invoke/VarHandle" ∧ (parseMethodDescriptor y_N_node.desc).map (fun d => d.parameters.length) = some 0 := by decide +kernel
abbrev rm_N_arc : Room := { frames := 3, cells := 0, slots := 0, locals := 65 }
theorem hy_N_arc : y_N_arc.cls ≠ "java/lang/invoke/MethodHandle" ∧ y_N_arc.cls ≠ "java/lang/invoke/VarHandle" ∧ (parseMethodDescriptor y_N_arc.desc).map (fun d => d.parameters.length) = some 4 := by decide +kernel
abbrev rm_N_change : Room := { frames := 2, cells := 0, slots := 0, locals := 43 }
theorem hy_N_change : y_N_change.cls ≠ "java/lang/invoke/MethodHandle" ∧ y_N_change.cls ≠ "java/lang/invoke/VarHandle" ∧ (parseMethodDescriptor y_N_change.desc).map (fun d => d.parameters.length) = some 3 := by decide +kernel
abbrev rm_N_shut : Room := { frames := 2, cells := 0, slots := 0, locals := 43 }
theorem hy_N_shut : y_N_shut.cls ≠ "java/lang/invoke/MethodHandle" ∧ y_N_shut.cls ≠ "java/lang/invoke/VarHandle" ∧ (parseMethodDescriptor y_N_shut.desc).map (fun d => d.parameters.length) = some 2 := by decide +kernel
abbrev rm_N_next : Room := { frames := 13, cells := 0, slots := 0, locals := 313 }
theorem hy_N_next : y_N_next.cls ≠ "java/lang/invoke/MethodHandle" ∧ y_N_next.cls ≠ "java/lang/invoke/VarHandle" ∧ (parseMethodDescriptor y_N_next.desc).map (fun d => d.parameters.length) = some 3 := by decide +kernel
abbrev rm_N_count : Room := { frames := 13, cells := 0, slots := 0, locals := 313 }
theorem hy_N_count : y_N_count.cls ≠ "java/lang/invoke/MethodHandle" ∧ y_N_count.cls ≠ "java/lang/invoke/VarHandle" ∧ (parseMethodDescriptor y_N_count.desc).map (fun d => d.parameters.length) = some 2 := by decide +kernel
abbrev rm_N_apart : Room := { frames := 3, cells := 0, slots := 0, locals := 73 }
theorem hy_N_apart : y_N_apart.cls ≠ "java/lang/invoke/MethodHandle" ∧ y_N_apart.cls ≠ "java/lang/invoke/VarHandle" ∧ (parseMethodDescriptor y_N_apart.desc).map (fun d => d.parameters.length) = some 4 := by decide +kernel
abbrev rm_N_most : Room := { frames := 3, cells := 0, slots := 0, locals := 73 }
theorem hy_N_most : y_N_most.cls ≠ "java/lang/invoke/MethodHandle" ∧ y_N_most.cls ≠ "java/lang/invoke/VarHandle" ∧ (parseMethodDescriptor y_N_most.desc).map (fun d => d.parameters.length) = some 3 := by decide +kernel
abbrev rm_N_within : Room := { frames := 13, cells := 0, slots := 0, locals := 313 }
theorem hy_N_within : y_N_within.cls ≠ "java/lang/invoke/MethodHandle" ∧ y_N_within.cls ≠ "java/lang/invoke/VarHandle" ∧ (parseMethodDescriptor y_N_within.desc).map (fun d => d.parameters.length) = some 3 := by decide +kernel
abbrev rm_N_pairs : Room := { frames := 13, cells := 0, slots := 0, locals := 313 }
theorem hy_N_pairs : y_N_pairs.cls ≠ "java/lang/invoke/MethodHandle" ∧ y_N_pairs.cls ≠ "java/lang/invoke/VarHandle" ∧ (parseMethodDescriptor y_N_pairs.desc).map (fun d => d.parameters.length) = some 2 := by decide +kernel
abbrev rm_N_pair : Room := { frames := 1, cells := 0, slots := 0, locals := 22 }
theorem hy_N_pair : y_N_pair.cls ≠ "java/lang/invoke/MethodHandle" ∧ y_N_pair.cls ≠ "java/lang/invoke/VarHandle" ∧ (parseMethodDescriptor y_N_pair.desc).map (fun d => d.parameters.length) = some 2 := by decide +kernel
abbrev rm_N_step : Room := { frames := 1, cells := 0, slots := 0, locals := 22 }
theorem hy_N_step : y_N_step.cls ≠ "java/lang/invoke/MethodHandle" ∧ y_N_step.cls ≠ "java/lang/invoke/VarHandle" ∧ (parseMethodDescriptor y_N_step.desc).map (fun d => d.parameters.length) = some 1 := by decide +kernel
abbrev rm_N_sum : Room := { frames := 1, cells := 0, slots := 0, locals := 22 }
theorem hy_N_sum : y_N_sum.cls ≠ "java/lang/invoke/MethodHandle" ∧ y_N_sum.cls ≠ "java/lang/invoke/VarHandle" ∧ (parseMethodDescriptor y_N_sum.desc).map (fun d => d.parameters.length) = some 1 := by decide +kernel
abbrev rm_N_told : Room := { frames := 2, cells := 0, slots := 0, locals := 43 }
theorem hy_N_told : y_N_told.cls ≠ "java/lang/invoke/MethodHandle" ∧ y_N_told.cls ≠ "java/lang/invoke/VarHandle" ∧ (parseMethodDescriptor y_N_told.desc).map (fun d => d.parameters.length) = some 2 := by decide +kernel
abbrev rm_N_of : Room := { frames := 1, cells := 0, slots := 0, locals := 22 }
theorem hy_N_of : y_N_of.cls ≠ "java/lang/invoke/MethodHandle" ∧ y_N_of.cls ≠ "java/lang/invoke/VarHandle" ∧ (parseMethodDescriptor y_N_of.desc).map (fun d => d.parameters.length) = some 1 := by decide +kernel
abbrev rm_N_liesIn : Room := { frames := 0, cells := 0, slots := 0, locals := 0 }
theorem hy_N_liesIn : y_N_liesIn.cls ≠ "java/lang/invoke/MethodHandle" ∧ y_N_liesIn.cls ≠ "java/lang/invoke/VarHandle" ∧ (parseMethodDescriptor y_N_liesIn.desc).map (fun d => d.parameters.length) = some 3 := by decide +kernel
abbrev rm_N_isWeight : Room := { frames := 1, cells := 0, slots := 0, locals := 22 }
theorem hy_N_isWeight : y_N_isWeight.cls ≠ "java/lang/invoke/MethodHandle" ∧ y_N_isWeight.cls ≠ "java/lang/invoke/VarHandle" ∧ (parseMethodDescriptor y_N_isWeight.desc).map (fun d => d.parameters.length) = some 1 := by decide +kernel
abbrev rm_M_init : Room := { frames := 1, cells := 0, slots := 0, locals := 20 }
theorem hy_M_init : y_M_init.cls ≠ "java/lang/invoke/MethodHandle" ∧ y_M_init.cls ≠ "java/lang/invoke/VarHandle" ∧ (parseMethodDescriptor y_M_init.desc).map (fun d => d.parameters.length) = some 0 := by decide +kernel
abbrev rm_M_clear : Room := { frames := 0, cells := 0, slots := 0, locals := 0 }
theorem hy_M_clear : y_M_clear.cls ≠ "java/lang/invoke/MethodHandle" ∧ y_M_clear.cls ≠ "java/lang/invoke/VarHandle" ∧ (parseMethodDescriptor y_M_clear.desc).map (fun d => d.parameters.length) = some 0 := by decide +kernel
abbrev rm_M_isIn : Room := { frames := 0, cells := 0, slots := 0, locals := 0 }
theorem hy_M_isIn : y_M_isIn.cls ≠ "java/lang/invoke/MethodHandle" ∧ y_M_isIn.cls ≠ "java/lang/invoke/VarHandle" ∧ (parseMethodDescriptor y_M_isIn.desc).map (fun d => d.parameters.length) = some 3 := by decide +kernel
abbrev rm_M_isNode : Room := { frames := 1, cells := 0, slots := 0, locals := 22 }
theorem hy_M_isNode : y_M_isNode.cls ≠ "java/lang/invoke/MethodHandle" ∧ y_M_isNode.cls ≠ "java/lang/invoke/VarHandle" ∧ (parseMethodDescriptor y_M_isNode.desc).map (fun d => d.parameters.length) = some 1 := by decide +kernel
abbrev rm_M_isArc : Room := { frames := 1, cells := 0, slots := 0, locals := 22 }
theorem hy_M_isArc : y_M_isArc.cls ≠ "java/lang/invoke/MethodHandle" ∧ y_M_isArc.cls ≠ "java/lang/invoke/VarHandle" ∧ (parseMethodDescriptor y_M_isArc.desc).map (fun d => d.parameters.length) = some 1 := by decide +kernel
abbrev rm_M_areTwo : Room := { frames := 2, cells := 0, slots := 0, locals := 43 }
theorem hy_M_areTwo : y_M_areTwo.cls ≠ "java/lang/invoke/MethodHandle" ∧ y_M_areTwo.cls ≠ "java/lang/invoke/VarHandle" ∧ (parseMethodDescriptor y_M_areTwo.desc).map (fun d => d.parameters.length) = some 2 := by decide +kernel
abbrev rm_M_node : Room := { frames := 0, cells := 0, slots := 0, locals := 0 }
theorem hy_M_node : y_M_node.cls ≠ "java/lang/invoke/MethodHandle" ∧ y_M_node.cls ≠ "java/lang/invoke/VarHandle" ∧ (parseMethodDescriptor y_M_node.desc).map (fun d => d.parameters.length) = some 0 := by decide +kernel
abbrev rm_M_arc : Room := { frames := 3, cells := 0, slots := 0, locals := 65 }
theorem hy_M_arc : y_M_arc.cls ≠ "java/lang/invoke/MethodHandle" ∧ y_M_arc.cls ≠ "java/lang/invoke/VarHandle" ∧ (parseMethodDescriptor y_M_arc.desc).map (fun d => d.parameters.length) = some 4 := by decide +kernel
abbrev rm_M_change : Room := { frames := 2, cells := 0, slots := 0, locals := 43 }
theorem hy_M_change : y_M_change.cls ≠ "java/lang/invoke/MethodHandle" ∧ y_M_change.cls ≠ "java/lang/invoke/VarHandle" ∧ (parseMethodDescriptor y_M_change.desc).map (fun d => d.parameters.length) = some 3 := by decide +kernel
abbrev rm_M_shut : Room := { frames := 2, cells := 0, slots := 0, locals := 43 }
theorem hy_M_shut : y_M_shut.cls ≠ "java/lang/invoke/MethodHandle" ∧ y_M_shut.cls ≠ "java/lang/invoke/VarHandle" ∧ (parseMethodDescriptor y_M_shut.desc).map (fun d => d.parameters.length) = some 2 := by decide +kernel
abbrev rm_M_find : Room := { frames := 2, cells := 0, slots := 0, locals := 54 }
theorem hy_M_find : y_M_find.cls ≠ "java/lang/invoke/MethodHandle" ∧ y_M_find.cls ≠ "java/lang/invoke/VarHandle" ∧ (parseMethodDescriptor y_M_find.desc).map (fun d => d.parameters.length) = some 2 := by decide +kernel
abbrev rm_M_keep : Room := { frames := 1, cells := 0, slots := 0, locals := 25 }
theorem hy_M_keep : y_M_keep.cls ≠ "java/lang/invoke/MethodHandle" ∧ y_M_keep.cls ≠ "java/lang/invoke/VarHandle" ∧ (parseMethodDescriptor y_M_keep.desc).map (fun d => d.parameters.length) = some 1 := by decide +kernel
abbrev rm_M_isAhead : Room := { frames := 0, cells := 0, slots := 0, locals := 0 }
theorem hy_M_isAhead : y_M_isAhead.cls ≠ "java/lang/invoke/MethodHandle" ∧ y_M_isAhead.cls ≠ "java/lang/invoke/VarHandle" ∧ (parseMethodDescriptor y_M_isAhead.desc).map (fun d => d.parameters.length) = some 4 := by decide +kernel
abbrev rm_M_tell : Room := { frames := 0, cells := 0, slots := 0, locals := 0 }
theorem hy_M_tell : y_M_tell.cls ≠ "java/lang/invoke/MethodHandle" ∧ y_M_tell.cls ≠ "java/lang/invoke/VarHandle" ∧ (parseMethodDescriptor y_M_tell.desc).map (fun d => d.parameters.length) = some 1 := by decide +kernel
abbrev rm_M_next : Room := { frames := 3, cells := 0, slots := 0, locals := 79 }
theorem hy_M_next : y_M_next.cls ≠ "java/lang/invoke/MethodHandle" ∧ y_M_next.cls ≠ "java/lang/invoke/VarHandle" ∧ (parseMethodDescriptor y_M_next.desc).map (fun d => d.parameters.length) = some 3 := by decide +kernel
abbrev rm_M_count : Room := { frames := 3, cells := 0, slots := 0, locals := 79 }
theorem hy_M_count : y_M_count.cls ≠ "java/lang/invoke/MethodHandle" ∧ y_M_count.cls ≠ "java/lang/invoke/VarHandle" ∧ (parseMethodDescriptor y_M_count.desc).map (fun d => d.parameters.length) = some 2 := by decide +kernel
abbrev rm_M_apart : Room := { frames := 4, cells := 0, slots := 0, locals := 91 }
theorem hy_M_apart : y_M_apart.cls ≠ "java/lang/invoke/MethodHandle" ∧ y_M_apart.cls ≠ "java/lang/invoke/VarHandle" ∧ (parseMethodDescriptor y_M_apart.desc).map (fun d => d.parameters.length) = some 4 := by decide +kernel
abbrev rm_M_out : Room := { frames := 0, cells := 0, slots := 0, locals := 0 }
theorem hy_M_out : y_M_out.cls ≠ "java/lang/invoke/MethodHandle" ∧ y_M_out.cls ≠ "java/lang/invoke/VarHandle" ∧ (parseMethodDescriptor y_M_out.desc).map (fun d => d.parameters.length) = some 1 := by decide +kernel
abbrev rm_M_isJoined : Room := { frames := 0, cells := 0, slots := 0, locals := 0 }
theorem hy_M_isJoined : y_M_isJoined.cls ≠ "java/lang/invoke/MethodHandle" ∧ y_M_isJoined.cls ≠ "java/lang/invoke/VarHandle" ∧ (parseMethodDescriptor y_M_isJoined.desc).map (fun d => d.parameters.length) = some 3 := by decide +kernel
abbrev rm_M_many : Room := { frames := 0, cells := 0, slots := 0, locals := 0 }
theorem hy_M_many : y_M_many.cls ≠ "java/lang/invoke/MethodHandle" ∧ y_M_many.cls ≠ "java/lang/invoke/VarHandle" ∧ (parseMethodDescriptor y_M_many.desc).map (fun d => d.parameters.length) = some 1 := by decide +kernel
abbrev rm_M_most : Room := { frames := 3, cells := 0, slots := 0, locals := 65 }
theorem hy_M_most : y_M_most.cls ≠ "java/lang/invoke/MethodHandle" ∧ y_M_most.cls ≠ "java/lang/invoke/VarHandle" ∧ (parseMethodDescriptor y_M_most.desc).map (fun d => d.parameters.length) = some 3 := by decide +kernel
abbrev rm_M_within : Room := { frames := 3, cells := 0, slots := 0, locals := 79 }
theorem hy_M_within : y_M_within.cls ≠ "java/lang/invoke/MethodHandle" ∧ y_M_within.cls ≠ "java/lang/invoke/VarHandle" ∧ (parseMethodDescriptor y_M_within.desc).map (fun d => d.parameters.length) = some 3 := by decide +kernel
abbrev rm_M_isBettered : Room := { frames := 0, cells := 0, slots := 0, locals := 0 }
theorem hy_M_isBettered : y_M_isBettered.cls ≠ "java/lang/invoke/MethodHandle" ∧ y_M_isBettered.cls ≠ "java/lang/invoke/VarHandle" ∧ (parseMethodDescriptor y_M_isBettered.desc).map (fun d => d.parameters.length) = some 1 := by decide +kernel
abbrev rm_M_pairs : Room := { frames := 3, cells := 0, slots := 0, locals := 79 }
theorem hy_M_pairs : y_M_pairs.cls ≠ "java/lang/invoke/MethodHandle" ∧ y_M_pairs.cls ≠ "java/lang/invoke/VarHandle" ∧ (parseMethodDescriptor y_M_pairs.desc).map (fun d => d.parameters.length) = some 2 := by decide +kernel
abbrev rm_M_pair : Room := { frames := 1, cells := 0, slots := 0, locals := 22 }
theorem hy_M_pair : y_M_pair.cls ≠ "java/lang/invoke/MethodHandle" ∧ y_M_pair.cls ≠ "java/lang/invoke/VarHandle" ∧ (parseMethodDescriptor y_M_pair.desc).map (fun d => d.parameters.length) = some 2 := by decide +kernel
abbrev rm_M_step : Room := { frames := 1, cells := 0, slots := 0, locals := 22 }
theorem hy_M_step : y_M_step.cls ≠ "java/lang/invoke/MethodHandle" ∧ y_M_step.cls ≠ "java/lang/invoke/VarHandle" ∧ (parseMethodDescriptor y_M_step.desc).map (fun d => d.parameters.length) = some 1 := by decide +kernel
abbrev rm_M_sum : Room := { frames := 1, cells := 0, slots := 0, locals := 22 }
theorem hy_M_sum : y_M_sum.cls ≠ "java/lang/invoke/MethodHandle" ∧ y_M_sum.cls ≠ "java/lang/invoke/VarHandle" ∧ (parseMethodDescriptor y_M_sum.desc).map (fun d => d.parameters.length) = some 1 := by decide +kernel
abbrev rm_M_told : Room := { frames := 2, cells := 0, slots := 0, locals := 43 }
theorem hy_M_told : y_M_told.cls ≠ "java/lang/invoke/MethodHandle" ∧ y_M_told.cls ≠ "java/lang/invoke/VarHandle" ∧ (parseMethodDescriptor y_M_told.desc).map (fun d => d.parameters.length) = some 2 := by decide +kernel
abbrev rm_M_of : Room := { frames := 1, cells := 0, slots := 0, locals := 22 }
theorem hy_M_of : y_M_of.cls ≠ "java/lang/invoke/MethodHandle" ∧ y_M_of.cls ≠ "java/lang/invoke/VarHandle" ∧ (parseMethodDescriptor y_M_of.desc).map (fun d => d.parameters.length) = some 1 := by decide +kernel
abbrev rm_B_init : Room := { frames := 1, cells := 0, slots := 0, locals := 20 }
theorem hy_B_init : y_B_init.cls ≠ "java/lang/invoke/MethodHandle" ∧ y_B_init.cls ≠ "java/lang/invoke/VarHandle" ∧ (parseMethodDescriptor y_B_init.desc).map (fun d => d.parameters.length) = some 0 := by decide +kernel
abbrev rm_B_empty : Room := { frames := 0, cells := 0, slots := 0, locals := 0 }
theorem hy_B_empty : y_B_empty.cls ≠ "java/lang/invoke/MethodHandle" ∧ y_B_empty.cls ≠ "java/lang/invoke/VarHandle" ∧ (parseMethodDescriptor y_B_empty.desc).map (fun d => d.parameters.length) = some 0 := by decide +kernel
abbrev rm_B_offer : Room := { frames := 0, cells := 0, slots := 0, locals := 0 }
theorem hy_B_offer : y_B_offer.cls ≠ "java/lang/invoke/MethodHandle" ∧ y_B_offer.cls ≠ "java/lang/invoke/VarHandle" ∧ (parseMethodDescriptor y_B_offer.desc).map (fun d => d.parameters.length) = some 2 := by decide +kernel
abbrev rm_F_init : Room := { frames := 1, cells := 0, slots := 0, locals := 20 }
theorem hy_F_init : y_F_init.cls ≠ "java/lang/invoke/MethodHandle" ∧ y_F_init.cls ≠ "java/lang/invoke/VarHandle" ∧ (parseMethodDescriptor y_F_init.desc).map (fun d => d.parameters.length) = some 1 := by decide +kernel
abbrev rm_F_entry : Room := { frames := 0, cells := 0, slots := 0, locals := 0 }
theorem hy_F_entry : y_F_entry.cls ≠ "java/lang/invoke/MethodHandle" ∧ y_F_entry.cls ≠ "java/lang/invoke/VarHandle" ∧ (parseMethodDescriptor y_F_entry.desc).map (fun d => d.parameters.length) = some 1 := by decide +kernel
abbrev rm_F_exit : Room := { frames := 0, cells := 0, slots := 0, locals := 0 }
theorem hy_F_exit : y_F_exit.cls ≠ "java/lang/invoke/MethodHandle" ∧ y_F_exit.cls ≠ "java/lang/invoke/VarHandle" ∧ (parseMethodDescriptor y_F_exit.desc).map (fun d => d.parameters.length) = some 1 := by decide +kernel
abbrev rm_F_prepare : Room := { frames := 2, cells := 0, slots := 0, locals := 49 }
theorem hy_F_prepare : y_F_prepare.cls ≠ "java/lang/invoke/MethodHandle" ∧ y_F_prepare.cls ≠ "java/lang/invoke/VarHandle" ∧ (parseMethodDescriptor y_F_prepare.desc).map (fun d => d.parameters.length) = some 3 := by decide +kernel
abbrev rm_F_addEdge : Room := { frames := 1, cells := 0, slots := 0, locals := 25 }
theorem hy_F_addEdge : y_F_addEdge.cls ≠ "java/lang/invoke/MethodHandle" ∧ y_F_addEdge.cls ≠ "java/lang/invoke/VarHandle" ∧ (parseMethodDescriptor y_F_addEdge.desc).map (fun d => d.parameters.length) = some 4 := by decide +kernel
abbrev rm_F_setEdge : Room := { frames := 0, cells := 0, slots := 0, locals := 0 }
theorem hy_F_setEdge : y_F_setEdge.cls ≠ "java/lang/invoke/MethodHandle" ∧ y_F_setEdge.cls ≠ "java/lang/invoke/VarHandle" ∧ (parseMethodDescriptor y_F_setEdge.desc).map (fun d => d.parameters.length) = some 5 := by decide +kernel
abbrev rm_F_addPath : Room := { frames := 2, cells := 0, slots := 0, locals := 46 }
theorem hy_F_addPath : y_F_addPath.cls ≠ "java/lang/invoke/MethodHandle" ∧ y_F_addPath.cls ≠ "java/lang/invoke/VarHandle" ∧ (parseMethodDescriptor y_F_addPath.desc).map (fun d => d.parameters.length) = some 0 := by decide +kernel
abbrev rm_F_measure : Room := { frames := 1, cells := 0, slots := 0, locals := 23 }
theorem hy_F_measure : y_F_measure.cls ≠ "java/lang/invoke/MethodHandle" ∧ y_F_measure.cls ≠ "java/lang/invoke/VarHandle" ∧ (parseMethodDescriptor y_F_measure.desc).map (fun d => d.parameters.length) = some 0 := by decide +kernel
abbrev rm_F_tryEdge : Room := { frames := 0, cells := 0, slots := 0, locals := 0 }
theorem hy_F_tryEdge : y_F_tryEdge.cls ≠ "java/lang/invoke/MethodHandle" ∧ y_F_tryEdge.cls ≠ "java/lang/invoke/VarHandle" ∧ (parseMethodDescriptor y_F_tryEdge.desc).map (fun d => d.parameters.length) = some 1 := by decide +kernel
abbrev rm_G_init : Room := { frames := 1, cells := 0, slots := 0, locals := 20 }
theorem hy_G_init : y_G_init.cls ≠ "java/lang/invoke/MethodHandle" ∧ y_G_init.cls ≠ "java/lang/invoke/VarHandle" ∧ (parseMethodDescriptor y_G_init.desc).map (fun d => d.parameters.length) = some 0 := by decide +kernel
abbrev rm_G_empty : Room := { frames := 1, cells := 0, slots := 0, locals := 23 }
theorem hy_G_empty : y_G_empty.cls ≠ "java/lang/invoke/MethodHandle" ∧ y_G_empty.cls ≠ "java/lang/invoke/VarHandle" ∧ (parseMethodDescriptor y_G_empty.desc).map (fun d => d.parameters.length) = some 0 := by decide +kernel
abbrev rm_G_isNode : Room := { frames := 1, cells := 0, slots := 0, locals := 22 }
theorem hy_G_isNode : y_G_isNode.cls ≠ "java/lang/invoke/MethodHandle" ∧ y_G_isNode.cls ≠ "java/lang/invoke/VarHandle" ∧ (parseMethodDescriptor y_G_isNode.desc).map (fun d => d.parameters.length) = some 1 := by decide +kernel
abbrev rm_G_areTwoNodes : Room := { frames := 2, cells := 0, slots := 0, locals := 43 }
theorem hy_G_areTwoNodes : y_G_areTwoNodes.cls ≠ "java/lang/invoke/MethodHandle" ∧ y_G_areTwoNodes.cls ≠ "java/lang/invoke/VarHandle" ∧ (parseMethodDescriptor y_G_areTwoNodes.desc).map (fun d => d.parameters.length) = some 2 := by decide +kernel
abbrev rm_G_isArc : Room := { frames := 1, cells := 0, slots := 0, locals := 22 }
theorem hy_G_isArc : y_G_isArc.cls ≠ "java/lang/invoke/MethodHandle" ∧ y_G_isArc.cls ≠ "java/lang/invoke/VarHandle" ∧ (parseMethodDescriptor y_G_isArc.desc).map (fun d => d.parameters.length) = some 1 := by decide +kernel
abbrev rm_G_addNode : Room := { frames := 0, cells := 0, slots := 0, locals := 0 }
theorem hy_G_addNode : y_G_addNode.cls ≠ "java/lang/invoke/MethodHandle" ∧ y_G_addNode.cls ≠ "java/lang/invoke/VarHandle" ∧ (parseMethodDescriptor y_G_addNode.desc).map (fun d => d.parameters.length) = some 0 := by decide +kernel
abbrev rm_G_addArc : Room := { frames := 0, cells := 0, slots := 0, locals := 0 }
theorem hy_G_addArc : y_G_addArc.cls ≠ "java/lang/invoke/MethodHandle" ∧ y_G_addArc.cls ≠ "java/lang/invoke/VarHandle" ∧ (parseMethodDescriptor y_G_addArc.desc).map (fun d => d.parameters.length) = some 4 := by decide +kernel
abbrev rm_G_shutArcs : Room := { frames := 0, cells := 0, slots := 0, locals := 0 }
theorem hy_G_shutArcs : y_G_shutArcs.cls ≠ "java/lang/invoke/MethodHandle" ∧ y_G_shutArcs.cls ≠ "java/lang/invoke/VarHandle" ∧ (parseMethodDescriptor y_G_shutArcs.desc).map (fun d => d.parameters.length) = some 0 := by decide +kernel
abbrev rm_G_secondOf : Room := { frames := 2, cells := 0, slots := 0, locals := 43 }
theorem hy_G_secondOf : y_G_secondOf.cls ≠ "java/lang/invoke/MethodHandle" ∧ y_G_secondOf.cls ≠ "java/lang/invoke/VarHandle" ∧ (parseMethodDescriptor y_G_secondOf.desc).map (fun d => d.parameters.length) = some 1 := by decide +kernel
abbrev rm_C_head : Room := { frames := 0, cells := 0, slots := 0, locals := 0 }
theorem hy_C_head : y_C_head.cls ≠ "java/lang/invoke/MethodHandle" ∧ y_C_head.cls ≠ "java/lang/invoke/VarHandle" ∧ (parseMethodDescriptor y_C_head.desc).map (fun d => d.parameters.length) = some 2 := by decide +kernel
abbrev rm_C_arcAt : Room := { frames := 1, cells := 0, slots := 0, locals := 20 }
theorem hy_C_arcAt : y_C_arcAt.cls ≠ "java/lang/invoke/MethodHandle" ∧ y_C_arcAt.cls ≠ "java/lang/invoke/VarHandle" ∧ (parseMethodDescriptor y_C_arcAt.desc).map (fun d => d.parameters.length) = some 2 := by decide +kernel
abbrev rm_C_weightIn : Room := { frames := 0, cells := 0, slots := 0, locals := 0 }
theorem hy_C_weightIn : y_C_weightIn.cls ≠ "java/lang/invoke/MethodHandle" ∧ y_C_weightIn.cls ≠ "java/lang/invoke/VarHandle" ∧ (parseMethodDescriptor y_C_weightIn.desc).map (fun d => d.parameters.length) = some 1 := by decide +kernel
abbrev rm_C_lengthIn : Room := { frames := 0, cells := 0, slots := 0, locals := 0 }
theorem hy_C_lengthIn : y_C_lengthIn.cls ≠ "java/lang/invoke/MethodHandle" ∧ y_C_lengthIn.cls ≠ "java/lang/invoke/VarHandle" ∧ (parseMethodDescriptor y_C_lengthIn.desc).map (fun d => d.parameters.length) = some 1 := by decide +kernel
abbrev rm_C_arcIn : Room := { frames := 1, cells := 0, slots := 0, locals := 20 }
theorem hy_C_arcIn : y_C_arcIn.cls ≠ "java/lang/invoke/MethodHandle" ∧ y_C_arcIn.cls ≠ "java/lang/invoke/VarHandle" ∧ (parseMethodDescriptor y_C_arcIn.desc).map (fun d => d.parameters.length) = some 2 := by decide +kernel
abbrev rm_C_shiftOf : Room := { frames := 0, cells := 0, slots := 0, locals := 0 }
theorem hy_C_shiftOf : y_C_shiftOf.cls ≠ "java/lang/invoke/MethodHandle" ∧ y_C_shiftOf.cls ≠ "java/lang/invoke/VarHandle" ∧ (parseMethodDescriptor y_C_shiftOf.desc).map (fun d => d.parameters.length) = some 1 := by decide +kernel
abbrev rm_P_init : Room := { frames := 1, cells := 0, slots := 0, locals := 20 }
theorem hy_P_init : y_P_init.cls ≠ "java/lang/invoke/MethodHandle" ∧ y_P_init.cls ≠ "java/lang/invoke/VarHandle" ∧ (parseMethodDescriptor y_P_init.desc).map (fun d => d.parameters.length) = some 2 := by decide +kernel
abbrev rm_P_findAll : Room := { frames := 12, cells := 0, slots := 0, locals := 291 }
theorem hy_P_findAll : y_P_findAll.cls ≠ "java/lang/invoke/MethodHandle" ∧ y_P_findAll.cls ≠ "java/lang/invoke/VarHandle" ∧ (parseMethodDescriptor y_P_findAll.desc).map (fun d => d.parameters.length) = some 2 := by decide +kernel
abbrev rm_P_walkOn (d : Nat) : Room := { frames := 3 + d, cells := 0, slots := 0, locals := 66 + 25 * d }
theorem hy_P_walkOn : y_P_walkOn.cls ≠ "java/lang/invoke/MethodHandle" ∧ y_P_walkOn.cls ≠ "java/lang/invoke/VarHandle" ∧ (parseMethodDescriptor y_P_walkOn.desc).map (fun d => d.parameters.length) = some 3 := by decide +kernel
abbrev rm_P_code : Room := { frames := 2, cells := 0, slots := 0, locals := 41 }
theorem hy_P_code : y_P_code.cls ≠ "java/lang/invoke/MethodHandle" ∧ y_P_code.cls ≠ "java/lang/invoke/VarHandle" ∧ (parseMethodDescriptor y_P_code.desc).map (fun d => d.parameters.length) = some 1 := by decide +kernel
abbrev rm_H_init : Room := { frames := 1, cells := 0, slots := 0, locals := 20 }
theorem hy_H_init : y_H_init.cls ≠ "java/lang/invoke/MethodHandle" ∧ y_H_init.cls ≠ "java/lang/invoke/VarHandle" ∧ (parseMethodDescriptor y_H_init.desc).map (fun d => d.parameters.length) = some 0 := by decide +kernel
abbrev rm_H_empty : Room := { frames := 0, cells := 0, slots := 0, locals := 0 }
theorem hy_H_empty : y_H_empty.cls ≠ "java/lang/invoke/MethodHandle" ∧ y_H_empty.cls ≠ "java/lang/invoke/VarHandle" ∧ (parseMethodDescriptor y_H_empty.desc).map (fun d => d.parameters.length) = some 0 := by decide +kernel
abbrev rm_H_add : Room := { frames := 0, cells := 0, slots := 0, locals := 0 }
theorem hy_H_add : y_H_add.cls ≠ "java/lang/invoke/MethodHandle" ∧ y_H_add.cls ≠ "java/lang/invoke/VarHandle" ∧ (parseMethodDescriptor y_H_add.desc).map (fun d => d.parameters.length) = some 1 := by decide +kernel
abbrev rm_H_takeFirst : Room := { frames := 2, cells := 0, slots := 0, locals := 47 }
theorem hy_H_takeFirst : y_H_takeFirst.cls ≠ "java/lang/invoke/MethodHandle" ∧ y_H_takeFirst.cls ≠ "java/lang/invoke/VarHandle" ∧ (parseMethodDescriptor y_H_takeFirst.desc).map (fun d => d.parameters.length) = some 0 := by decide +kernel
abbrev rm_H_sinkFromTop : Room := { frames := 1, cells := 0, slots := 0, locals := 23 }
theorem hy_H_sinkFromTop : y_H_sinkFromTop.cls ≠ "java/lang/invoke/MethodHandle" ∧ y_H_sinkFromTop.cls ≠ "java/lang/invoke/VarHandle" ∧ (parseMethodDescriptor y_H_sinkFromTop.desc).map (fun d => d.parameters.length) = some 1 := by decide +kernel
abbrev rm_H_lesserChild : Room := { frames := 0, cells := 0, slots := 0, locals := 0 }
theorem hy_H_lesserChild : y_H_lesserChild.cls ≠ "java/lang/invoke/MethodHandle" ∧ y_H_lesserChild.cls ≠ "java/lang/invoke/VarHandle" ∧ (parseMethodDescriptor y_H_lesserChild.desc).map (fun d => d.parameters.length) = some 1 := by decide +kernel
abbrev rm_T_init : Room := { frames := 1, cells := 0, slots := 0, locals := 20 }
theorem hy_T_init : y_T_init.cls ≠ "java/lang/invoke/MethodHandle" ∧ y_T_init.cls ≠ "java/lang/invoke/VarHandle" ∧ (parseMethodDescriptor y_T_init.desc).map (fun d => d.parameters.length) = some 0 := by decide +kernel
abbrev rm_T_empty : Room := { frames := 0, cells := 0, slots := 0, locals := 0 }
theorem hy_T_empty : y_T_empty.cls ≠ "java/lang/invoke/MethodHandle" ∧ y_T_empty.cls ≠ "java/lang/invoke/VarHandle" ∧ (parseMethodDescriptor y_T_empty.desc).map (fun d => d.parameters.length) = some 0 := by decide +kernel
abbrev rm_T_tell : Room := { frames := 3, cells := 0, slots := 0, locals := 68 }
theorem hy_T_tell : y_T_tell.cls ≠ "java/lang/invoke/MethodHandle" ∧ y_T_tell.cls ≠ "java/lang/invoke/VarHandle" ∧ (parseMethodDescriptor y_T_tell.desc).map (fun d => d.parameters.length) = some 2 := by decide +kernel
abbrev rm_J_fill : Room := { frames := 0, cells := 0, slots := 0, locals := 0 }
theorem hy_J_fill : y_J_fill.cls ≠ "java/lang/invoke/MethodHandle" ∧ y_J_fill.cls ≠ "java/lang/invoke/VarHandle" ∧ (parseMethodDescriptor y_J_fill.desc).map (fun d => d.parameters.length) = some 2 := by decide +kernel
section RK
variable {τ : Type} {p : Program} {l : Launch} {e : Env} {R : Room} {s : State} {m : MethodId} {args : Array Value} {below : List Frame} {meth : Method} {c : Code} {D : va_G} {cl : List vw_C} {tys : List (ClassId × FieldType)} {A : Nat → Prop} {nL nc ns : Nat} {Q : State → Prop} {w : τ → va_W} {x : τ} {lv : List (Nat × Value)} {pc n : Nat} {st st0 : List Value} {a : Array Value}
theorem g_runI {f : Int → τ → Prop} (hfix : fixD w) (hn : pc + 3 = n) (hr : ∀ (H : Heap) (locs : List Loc) (ls : Array Slot), va_P D cl (w x) H → va_D A (w x) → lv_has ls nL lv → va_Run p l e R s m args below meth c H locs nc ns 0 0 (F0 m pc ls st0) st (QcW D cl w x (pI f) a) (adr (w x)))
    (k : ∀ (z : Int) (x' : τ), f z x' → GG p l e R s m args below meth c D cl A nL nc ns Q w x' lv n (.int (iI z) :: st)) : GG p l e R s m args below meth c D cl A nL nc ns Q w x lv pc st0 :=
  g_run hfix hn hr (fun v x' hp => by obtain ⟨z, rfl, hz⟩ := hp; exact k z x' hz)
theorem g_runL {f : Int → τ → Prop} (hfix : fixD w) (hn : pc + 3 = n) (hr : ∀ (H : Heap) (locs : List Loc) (ls : Array Slot), va_P D cl (w x) H → va_D A (w x) → lv_has ls nL lv → va_Run p l e R s m args below meth c H locs nc ns 0 0 (F0 m pc ls st0) st (QcW D cl w x (pL f) a) (adr (w x)))
    (k : ∀ (z : Int) (x' : τ), f z x' → GG p l e R s m args below meth c D cl A nL nc ns Q w x' lv n (.long (lI z) :: st)) : GG p l e R s m args below meth c D cl A nL nc ns Q w x lv pc st0 :=
  g_run hfix hn hr (fun v x' hp => by obtain ⟨z, rfl, hz⟩ := hp; exact k z x' hz)
theorem g_runV {f : τ → Prop} (hfix : fixD w) (hn : pc + 3 = n) (hr : ∀ (H : Heap) (locs : List Loc) (ls : Array Slot), va_P D cl (w x) H → va_D A (w x) → lv_has ls nL lv → va_Run p l e R s m args below meth c H locs nc ns 0 0 (F0 m pc ls st0) st (QcW D cl w x (pV f) a) (adr (w x)))
    (k : ∀ (x' : τ), f x' → GG p l e R s m args below meth c D cl A nL nc ns Q w x' lv n st) : GG p l e R s m args below meth c D cl A nL nc ns Q w x lv pc st0 :=
  g_run hfix hn hr (fun v x' hp => by obtain ⟨rfl, hz⟩ := hp; exact k x' hz)
end RK
/-- a contract's beginning -/
theorem MM.go {τ : Type} {l : Launch} {D : va_G} {cl : List vw_C} {tys : List (ClassId × FieldType)} {w : τ → va_W} {y : MethodName} {rm : Room} {av : List Value} {x : τ} {post : Option Value → τ → Prop} (cc : ByteArray) (maxL : Nat) (ret : Option FieldType) (own : String) (lv : List (Nat × Value)) (hy : plainName y.cls = true) (ho : y.cls = own) (hlv : lv_args 0 av = lv) (hal : (lg_sl av).length ≤ maxL)
    (body : ∀ (p : Program) (e : Env) (s : State) (m : MethodId) (args : Array Value) (below : List Frame) (meth : Method) (c : Code), CX p s m args c cc maxL own TT D cl tys → meth.sig.returnType = ret → meth.locks = false →
      GG p l e rm s m args below meth c D cl (adr (w x)) maxL 0 0 (MQ below (QcW D cl w x post) args s 0 0 (adr (w x))) w x lv 0 []) : MM l D cl tys w y (Cond.code y cc maxL ret :: TT) rm av x post :=
  MM.mk cc maxL ret hy ho hal (fun p e s m args below meth c C h1 h2 => hlv ▸ body p e s m args below meth c C h1 h2)
abbrev MX (l : Launch) (D : va_G) (a : Nat → Nat) (ki kz kl kq : ClassId) (y : MethodName) (b : ByteArray) (maxL : Nat) (ret : Option FieldType) (rm : Room) (av : List Value) (S : Nat → Int → Int) (post : Option Value → (Nat → Int → Int) → Prop) : Prop := MM l D cls (tyz ki kz kl kq) (wX a ki kz kl kq) y (Cond.code y b maxL ret :: TT) rm av S post
abbrev MY (l : Launch) (D : va_G) (a : Nat → Nat) (ki kz kl kq : ClassId) (y : MethodName) (b : ByteArray) (maxL : Nat) (ret : Option FieldType) (rm : Room) (av : List Value) (S : Nat → Int → Int) (post : Option Value → (Nat → Int → Int) → Prop) : Prop := MM l D cls (tyz ki kz kl kq) (wY a ki kz kl kq) y (Cond.code y b maxL ret :: TT) rm av S post
section ROWS
variable {a : Nat → Nat} {ki kz kl kq : ClassId} {S : Nat → Int → Int} {z v : Int}
theorem wX_row {k : Nat} (h : k < 8) : (wX a ki kz kl kq S)[8 + k]? = some (a (8 + k), .inl (ki, 20, .inl (ia (S (8 + k))))) :=
  match k, h with
  | 0, _ => rfl | 1, _ => rfl | 2, _ => rfl | 3, _ => rfl | 4, _ => rfl | 5, _ => rfl | 6, _ => rfl | 7, _ => rfl
theorem wX_srow {k : Nat} (h : k < 8) : (wX a ki kz kl kq S).set (8 + k) (a (8 + k), .inl (ki, 20, .inl (ia (up_ (S (8 + k)) z v)))) = wX a ki kz kl kq (us S (8 + k) z v) :=
  match k, h with
  | 0, _ => rfl | 1, _ => rfl | 2, _ => rfl | 3, _ => rfl | 4, _ => rfl | 5, _ => rfl | 6, _ => rfl | 7, _ => rfl
end ROWS
end
section
/-! some rows more -/
section GM
variable {τ : Type} {p : Program} {l : Launch} {e : Env} {R : Room} {s : State} {m : MethodId} {args : Array Value} {below : List Frame} {meth : Method} {c : Code} {D : va_G} {cl : List vw_C} {tys : List (ClassId × FieldType)} {A : Nat → Prop} {nL nc ns : Nat} {Q : State → Prop} {w : τ → va_W} {x : τ} {cc : ByteArray} {own : String} {Ts : List Cond} {lv lv' : List (Nat × Value)} {pc n : Nat} {st : List Value}
theorem g_v {z z' : Int} (h : z = z') (k : GG p l e R s m args below meth c D cl A nL nc ns Q w x lv pc (.int (iI z') :: st)) : GG p l e R s m args below meth c D cl A nL nc ns Q w x lv pc (.int (iI z) :: st) := h ▸ k
theorem g_vl {z z' : Int} (h : z = z') (k : GG p l e R s m args below meth c D cl A nL nc ns Q w x lv pc (.long (lI z') :: st)) : GG p l e R s m args below meth c D cl A nL nc ns Q w x lv pc (.long (lI z) :: st) := h ▸ k
theorem g_alen (C : CX p s m args c cc nL own Ts D cl tys) {a N : Nat} {cA : ClassId} {ty : FieldType} {r : (Nat → Int32) ⊕ (Nat → Int64) ⊕ (Nat → UInt32) ⊕ (Nat → UInt64) ⊕ (Nat → Option Nat)} (q0 t0 : Nat) (he : (w x)[q0]? = some (a, .inl (cA, N, r))) (ht : tys[t0]? = some (cA, ty)) (hd : decode cc pc = .ok (.arraylength, 1)) (hn : pc + 1 = n)
    (kk : GG p l e R s m args below meth c D cl A nL nc ns Q w x lv n (.int (iI (N : Int)) :: st)) : GG p l e R s m args below meth c D cl A nL nc ns Q w x lv pc (.ref a :: st) :=
  fun H locs ls hP hD hS hl => by
    subst hn
    exact va_alen C.1 C.2.1 C.2.2.2.2.2.1 hP q0 t0 he ht (iI_nI N).symm hd (kk H locs ls hP hD hS hl)
end GM
/-- nothing but the places of l has changed -/
def eqx (l : List Nat) (S S' : Nat → Int → Int) : Prop := ∀ k, k ∉ l → S' k = S k
/-- place k holds v at 0 .. n - 1 -/
def fl (S : Nat → Int → Int) (k : Nat) (n v : Int) : Nat → Int → Int := fun i => if i = k then (fun j => if 0 ≤ j ∧ j < n then v else S i j) else S i
/-! Arrays.fill -/
abbrev w1 (q : Nat) (ki : ClassId) (N : Nat) : (Int → Int) → va_W := fun f => [(q, .inl (ki, N, .inl (ia f)))]
theorem lo_fill {l : Launch} {D : va_G} {ki kz kl kq : ClassId} {q N : Nat} {p : Program} {e : Env} {s : State} {m : MethodId} {args : Array Value} {below : List Frame} {meth : Method} {c : Code} {f0 : Int → Int} {v : Int} (hN : N < 2147483648) (C : CX p s m args c b_J_fill 4 "java/util/Arrays" TT D cls (tyz ki kz kl kq)) (hr : meth.sig.returnType = none) (hk : meth.locks = false) : ∀ (k : Nat) (i : Int), 0 ≤ i → i ≤ N → N ≤ i.toNat + k →
    GG p l e rm_J_fill s m args below meth c D cls (adr (w1 q ki N f0)) 4 0 0 (MQ below (QcW D cls (w1 q ki N) f0 (pV fun f' => f' = fun j => if 0 ≤ j ∧ j < (N : Int) then v else f0 j)) args s 0 0 (adr (w1 q ki N f0))) (w1 q ki N) (fun j => if 0 ≤ j ∧ j < i then v else f0 j) [(3, .int (iI (N : Int))), (2, .int (iI i)), (0, .ref q), (1, .int (iI v))] 5 [] := by
  intro k
  induction k with
  | zero =>
    intro i h0 h1 h2
    refine g_iload_n C d_J_fill_5 rfl rfl ?_
    refine g_iload_n C d_J_fill_6 rfl rfl ?_
    refine g_icmp_ge (tgt := 20) C d_J_fill_7 (by decide) rfl (by omega) (by omega) (fun h => ?_) (fun h => absurd h (by omega))
    refine g_vret C hr hk d_J_fill_20 ⟨rfl, ?_⟩
    have : i = N := by omega
    rw [this]
  | succ k ih =>
    intro i h0 h1 h2
    refine g_iload_n C d_J_fill_5 rfl rfl ?_
    refine g_iload_n C d_J_fill_6 rfl rfl ?_
    refine g_icmp_ge (tgt := 20) C d_J_fill_7 (by decide) rfl (by omega) (by omega) (fun h => ?_) (fun h => ?_)
    · refine g_vret C hr hk d_J_fill_20 ⟨rfl, ?_⟩
      have : i = N := by omega
      rw [this]
    · refine g_aload_n C d_J_fill_10 rfl rfl ?_
      refine g_iload_n C d_J_fill_11 rfl rfl ?_
      refine g_iload_n C d_J_fill_12 rfl rfl ?_
      refine g_iast C 0 0 rfl rfl (by omega) (by omega) hN rfl d_J_fill_13 rfl ?_
      obtain ⟨i', ei⟩ : ∃ z : Int, z = i + 1 := ⟨_, rfl⟩
      refine g_iinc (q := 1) (z := i') (lv' := [(2, .int (iI i')), (3, .int (iI (N : Int))), (0, .ref q), (1, .int (iI v))]) C d_J_fill_14 rfl ei.symm (by decide) rfl rfl ?_
      refine g_goto (tgt := 5) C d_J_fill_17 (by decide) ?_
      refine GG.lvs (lv' := [(3, .int (iI (N : Int))), (2, .int (iI i')), (0, .ref q), (1, .int (iI v))]) (by simp [lk]) ?_
      refine GG.at (x' := fun j => if 0 ≤ j ∧ j < i' then v else f0 j) ?_ (ih i' (by omega) (by omega) (by omega))
      funext j
      unfold up_
      by_cases e1 : j = i
      · rw [if_pos e1, if_pos (by omega)]
      · rw [if_neg e1]
        show (if 0 ≤ j ∧ j < i then v else f0 j) = _
        by_cases e2 : 0 ≤ j ∧ j < i
        · rw [if_pos e2, if_pos (by omega)]
        · rw [if_neg e2, if_neg (by omega)]
theorem m_J_fill {l : Launch} {D : va_G} {ki kz kl kq : ClassId} {q N : Nat} {f0 : Int → Int} {v : Int} (hN : N < 2147483648) : MM l D cls (tyz ki kz kl kq) (w1 q ki N) y_J_fill (Cond.code y_J_fill b_J_fill 4 none :: TT) rm_J_fill [.ref q, .int (iI v)] f0 (pV fun f' => f' = fun j => if 0 ≤ j ∧ j < (N : Int) then v else f0 j) := by
  refine MM.go b_J_fill 4 none "java/util/Arrays" [(0, .ref q), (1, .int (iI v))] (by decide) rfl rfl (Nat.le_of_ble_eq_true rfl) ?_
  intro p e s m args below meth c C hr hk
  refine g_iconst (z := 0) C d_J_fill_0 rfl rfl ?_
  refine g_istore_n (lv' := [(2, .int (iI 0)), (0, .ref q), (1, .int (iI v))]) C d_J_fill_1 (by decide) rfl rfl ?_
  refine g_aload_n C d_J_fill_2 rfl rfl ?_
  refine g_alen C 0 0 rfl rfl d_J_fill_3 rfl ?_
  refine g_istore_n (lv' := [(3, .int (iI (N : Int))), (2, .int (iI 0)), (0, .ref q), (1, .int (iI v))]) C d_J_fill_4 (by decide) rfl rfl ?_
  refine GG.at (x' := fun j => if 0 ≤ j ∧ j < 0 then v else f0 j) ?_ (lo_fill hN C hr hk N 0 (by omega) (by omega) (by omega))
  funext j
  rw [if_neg (by omega)]
/-! bits of codes, in whole numbers -/
theorem nI_iI {z : Int} (h : 0 ≤ z) : iI z = nI z.toNat := by rw [← iI_nI, Int.toNat_of_nonneg h]
theorem lN_lI {z : Int} (h : 0 ≤ z) : lI z = lN z.toNat := by
  have : lI ((z.toNat : Nat) : Int) = lN z.toNat := Int64.ofInt_eq_ofNat
  rw [← this, Int.toNat_of_nonneg h]
theorem i2l_ok {z : Int} (h : r32 z) : (iI z).toInt64 = lI z := by
  have e1 : Int32.minValue.toInt = -2147483648 := by decide
  have e2 : Int32.maxValue.toInt = 2147483647 := by decide
  exact Int32.toInt64_ofInt (by omega) (by omega)
theorem lshl_ok {z k : Int} (hz : 0 ≤ z) (h0 : 0 ≤ k) (h1 : k < 64) : lI z <<< ((iI k).toInt64 &&& 63) = lI (z * 2 ^ k.toNat) := by
  rw [lN_lI hz, nI_iI h0, bl_shl _ (by omega)]
  rw [lN_lI (Int.mul_nonneg hz (Int.le_of_lt (Int.pow_pos (by omega))))]
  congr 1
  rw [Int.toNat_mul hz (Int.le_of_lt (Int.pow_pos (by omega)))]
  have e3 : ((2 : Int) ^ k.toNat).toNat = 2 ^ k.toNat := by
    rw [show (2 : Int) ^ k.toNat = ((2 ^ k.toNat : Nat) : Int) by rw [Int.natCast_pow]; rfl, Int.toNat_natCast]
  rw [e3]
theorem lshr_ok {z k : Int} (hz : 0 ≤ z) (hz2 : z < 4611686018427387904) (h0 : 0 ≤ k) (h1 : k < 64) : lI z >>> ((iI k).toInt64 &&& 63) = lI (z / 2 ^ k.toNat) := by
  have hp : (2 : Int) ^ k.toNat = ((2 ^ k.toNat : Nat) : Int) := by rw [Int.natCast_pow]; rfl
  rw [lN_lI hz, nI_iI h0, bl_shr (by omega) (by omega)]
  rw [lN_lI (Int.ediv_nonneg hz (Int.le_of_lt (Int.pow_pos (by omega))))]
  congr 1
  rw [hp, ← Int.toNat_of_nonneg hz, ← Int.natCast_ediv, Int.toNat_natCast, Int.toNat_natCast]
theorem iand_ok {z : Int} (k : Nat) (hz : 0 ≤ z) (hk : k < 31) : iI z &&& iI ((2 ^ k : Nat) - 1 : Int) = iI (z % (2 ^ k : Nat)) := by
  have hp : 0 < 2 ^ k := Nat.pow_pos (by omega)
  rw [nI_iI hz, nI_iI (z := ((2 ^ k : Nat) - 1 : Int)) (by omega), bi_and]
  rw [show ((2 ^ k : Nat) - 1 : Int).toNat = 2 ^ k - 1 by omega, Nat.and_two_pow_sub_one_eq_mod]
  rw [nI_iI (Int.emod_nonneg _ (by omega))]
  congr 1
  rw [← Int.toNat_of_nonneg hz, ← Int.natCast_emod, Int.toNat_natCast, Int.toNat_natCast]
theorem lor_ok {b z : Int} (k : Nat) (hk : k < 63) (hb : 0 ≤ b) (hz : 0 ≤ z) (h1 : z < (2 ^ k : Nat)) (h2 : b * (2 ^ k : Nat) + z < 4611686018427387904) : lI (b * (2 ^ k : Nat)) ||| lI z = lI (b * (2 ^ k : Nat) + z) := by
  have hp : 0 < 2 ^ k := Nat.pow_pos (by omega)
  have e1 : (b * ((2 ^ k : Nat) : Int)) = ((b.toNat * 2 ^ k : Nat) : Int) := by rw [Int.natCast_mul, Int.toNat_of_nonneg hb]
  have e2 : z = ((z.toNat : Nat) : Int) := (Int.toNat_of_nonneg hz).symm
  rw [e1] at h2 ⊢
  rw [e2] at h1 h2 ⊢
  rw [← Int.natCast_add, lN_lI (by omega), lN_lI (by omega), lN_lI (by omega)]
  simp only [Int.toNat_natCast]
  exact bl_or (by omega) (by omega)
end
section
/-! switches -/
section GSW
variable {τ : Type} {p : Program} {l : Launch} {e : Env} {R : Room} {s : State} {m : MethodId} {args : Array Value} {below : List Frame} {meth : Method} {c : Code} {D : va_G} {cl : List vw_C} {tys : List (ClassId × FieldType)} {A : Nat → Prop} {nL nc ns : Nat} {Q : State → Prop} {w : τ → va_W} {x : τ} {cc : ByteArray} {own : String} {Ts : List Cond} {lv lv' : List (Nat × Value)} {pc n : Nat} {st : List Value}
theorem g_tin (C : CX p s m args c cc nL own Ts D cl tys) {dflt lo hi off z k : Int} {offs : Array Int} {len tgt : Nat} (hzk : z = k) (hd : decode cc pc = .ok (.tableswitch dflt lo hi offs, len)) (hr : r32 k) (h1 : lo ≤ k) (h2 : k ≤ hi) (ho : offs[(k - lo).toNat]? = some off) (ht : (pc : Int) + off = (tgt : Int)) (kk : GG p l e R s m args below meth c D cl A nL nc ns Q w x lv tgt st) : GG p l e R s m args below meth c D cl A nL nc ns Q w x lv pc (.int (iI z) :: st) :=
  fun H locs ls hP hD hS hl => by
    subst hzk
    exact lv_tableIn C.1 C.2.1 hd (by rw [iI_t hr]; omega) (by rw [iI_t hr]; omega) (by rw [iI_t hr]; exact ho) ht (kk H locs ls hP hD hS hl)
theorem g_tout (C : CX p s m args c cc nL own Ts D cl tys) {dflt lo hi z : Int} {offs : Array Int} {len tgt : Nat} (hz : z < lo ∨ hi < z) (hd : decode cc pc = .ok (.tableswitch dflt lo hi offs, len)) (hr : r32 z) (ht : (pc : Int) + dflt = (tgt : Int)) (kk : GG p l e R s m args below meth c D cl A nL nc ns Q w x lv tgt st) : GG p l e R s m args below meth c D cl A nL nc ns Q w x lv pc (.int (iI z) :: st) :=
  fun H locs ls hP hD hS hl => lv_tableOut C.1 C.2.1 hd (by rw [iI_t hr]; exact hz) ht (kk H locs ls hP hD hS hl)
theorem g_lsw (C : CX p s m args c cc nL own Ts D cl tys) {dflt off z : Int} {ps : Array (Int × Int)} {len tgt : Nat} (hd : decode cc pc = .ok (.lookupswitch dflt ps, len)) (hp : (ps.toList.zip (ps.toList.drop 1)).all (fun (a, next) => a.1 < next.1) = true) (hr : r32 z) (ho : Op.lookupswitch.offset ps.toList dflt z = off) (ht : (pc : Int) + off = (tgt : Int)) (kk : GG p l e R s m args below meth c D cl A nL nc ns Q w x lv tgt st) : GG p l e R s m args below meth c D cl A nL nc ns Q w x lv pc (.int (iI z) :: st) :=
  fun H locs ls hP hD hS hl => lv_lookup C.1 C.2.1 hd hp (by rw [iI_t hr]; exact ho) ht (kk H locs ls hP hD hS hl)
end GSW
end
section
/-! the class: tests of numbers -/
set_option maxRecDepth 100000 in
set_option maxHeartbeats 4000000 in
theorem m_N_liesIn {l : Launch} {D : va_G} {a : Nat → Nat} {ki kz kl kq : ClassId} {S : Nat → Int → Int} {z lo hi : Int} (hz : r32 z) (hl : r32 lo) (hh : r32 hi) : MX l D a ki kz kl kq y_N_liesIn b_N_liesIn 3 (some .boolean) rm_N_liesIn [.int (iI z), .int (iI lo), .int (iI hi)] S (pI fun r S' => S' = S ∧ ((r = 1 ∧ lo ≤ z ∧ z ≤ hi) ∨ (r = 0 ∧ ¬ (lo ≤ z ∧ z ≤ hi)))) := by
  refine MM.go b_N_liesIn 3 (some .boolean) "NextPaths" [(0, .int (iI z)), (1, .int (iI lo)), (2, .int (iI hi))] (by decide) rfl rfl (Nat.le_of_ble_eq_true rfl) ?_
  intro p e s m args below meth c C hr hk
  refine g_iload_n C d_N_liesIn_0 rfl rfl ?_
  refine g_iload_n C d_N_liesIn_1 rfl rfl ?_
  refine g_icmp_gt (tgt := 14) C d_N_liesIn_2 (by decide) rfl (by omega) (by omega) (fun h2 => ?_) (fun h2 => ?_)
  · refine g_iconst (z := 0) C d_N_liesIn_14 rfl rfl ?_
    refine g_zret C hr hk (by omega) d_N_liesIn_15 ⟨_, rfl, ?_⟩
    exact ⟨rfl, by omega⟩
  · refine g_iload_n C d_N_liesIn_5 rfl rfl ?_
    refine g_iload_n C d_N_liesIn_6 rfl rfl ?_
    refine g_icmp_gt (tgt := 14) C d_N_liesIn_7 (by decide) rfl (by omega) (by omega) (fun h7 => ?_) (fun h7 => ?_)
    · refine g_iconst (z := 0) C d_N_liesIn_14 rfl rfl ?_
      refine g_zret C hr hk (by omega) d_N_liesIn_15 ⟨_, rfl, ?_⟩
      exact ⟨rfl, by omega⟩
    · refine g_iconst (z := 1) C d_N_liesIn_10 rfl rfl ?_
      refine g_goto (tgt := 15) C d_N_liesIn_11 (by decide) ?_
      refine g_zret C hr hk (by omega) d_N_liesIn_15 ⟨_, rfl, ?_⟩
      exact ⟨rfl, by omega⟩

set_option maxRecDepth 100000 in
set_option maxHeartbeats 4000000 in
theorem m_N_isWeight {l : Launch} {D : va_G} {a : Nat → Nat} {ki kz kl kq : ClassId} {S : Nat → Int → Int} {z : Int} (hz : r32 z) : MX l D a ki kz kl kq y_N_isWeight b_N_isWeight 1 (some .boolean) rm_N_isWeight [.int (iI z)] S (pI fun r S' => S' = S ∧ ((r = 1 ∧ 0 ≤ z ∧ z ≤ 1000) ∨ (r = 0 ∧ ¬ (0 ≤ z ∧ z ≤ 1000)))) := by
  refine MM.go b_N_isWeight 1 (some .boolean) "NextPaths" [(0, .int (iI z))] (by decide) rfl rfl (Nat.le_of_ble_eq_true rfl) ?_
  intro p e s m args below meth c C hr hk
  refine g_iload_n C d_N_isWeight_0 rfl rfl ?_
  refine g_iconst (z := 0) C d_N_isWeight_1 rfl rfl ?_
  refine g_sipush (z := 1000) C d_N_isWeight_2 rfl (by decide) ?_
  refine g_runI (wX_fix a ki kz kl kq) rfl (rn_S C (m_N_liesIn hz (by decide) (by decide)) 3 kc_N_liesIn k_N_94 ks_N_liesIn kn_N hy_N_liesIn ⟨rfl, rfl⟩ ⟨by decide, by decide⟩ ⟨Nat.le_refl _, Nat.le_refl _⟩ rfl rfl (by decide) d_N_isWeight_5) (fun r S' hp => ?_)
  obtain ⟨rfl, hp⟩ := hp
  refine g_zret C hr hk (by omega) d_N_isWeight_8 ⟨_, rfl, ?_⟩
  exact ⟨rfl, by omega⟩

set_option maxRecDepth 100000 in
set_option maxHeartbeats 4000000 in
theorem m_G_isNode {l : Launch} {D : va_G} {a : Nat → Nat} {ki kz kl kq : ClassId} {S : Nat → Int → Int} {z : Int} (hz : r32 z) (hn : 0 ≤ S 0 0 ∧ S 0 0 ≤ 8) : MX l D a ki kz kl kq y_G_isNode b_G_isNode 2 (some .boolean) rm_G_isNode [.ref (a 1), .int (iI z)] S (pI fun r S' => S' = S ∧ ((r = 1 ∧ 0 ≤ z ∧ z < S 0 0) ∨ (r = 0 ∧ ¬ (0 ≤ z ∧ z < S 0 0)))) := by
  refine MM.go b_G_isNode 2 (some .boolean) "NextPaths$Graph" [(0, .ref (a 1)), (1, .int (iI z))] (by decide) rfl rfl (Nat.le_of_ble_eq_true rfl) ?_
  intro p e s m args below meth c C hr hk
  refine g_iload_n C d_G_isNode_0 rfl rfl ?_
  refine g_iconst (z := 0) C d_G_isNode_1 rfl rfl ?_
  refine g_aload_n C d_G_isNode_2 rfl rfl ?_
  refine g_get C 1 0 i_G wX_1 rfl (by decide) k_G_36 rfl rfl d_G_isNode_3 rfl ?_
  refine g_iconst (z := 1) C d_G_isNode_6 rfl rfl ?_
  refine g_isub C d_G_isNode_7 rfl rfl ?_
  refine g_runI (wX_fix a ki kz kl kq) rfl (rn_SN C (m_N_liesIn hz (by decide) (by omega)) 3 kc_N_liesIn k_G_49 ks_N_liesIn kn_N hy_N_liesIn ⟨rfl, rfl⟩ ⟨by decide, by decide⟩ ⟨Nat.le_refl _, Nat.le_refl _⟩ rfl rfl (by decide) d_G_isNode_8) (fun r S' hp => ?_)
  obtain ⟨rfl, hp⟩ := hp
  refine g_zret C hr hk (by omega) d_G_isNode_11 ⟨_, rfl, ?_⟩
  exact ⟨rfl, by omega⟩

set_option maxRecDepth 100000 in
set_option maxHeartbeats 4000000 in
theorem m_G_isArc {l : Launch} {D : va_G} {a : Nat → Nat} {ki kz kl kq : ClassId} {S : Nat → Int → Int} {z : Int} (hz : r32 z) (hn : 0 ≤ S 1 0 ∧ S 1 0 ≤ 20) : MX l D a ki kz kl kq y_G_isArc b_G_isArc 2 (some .boolean) rm_G_isArc [.ref (a 1), .int (iI z)] S (pI fun r S' => S' = S ∧ ((r = 1 ∧ 0 ≤ z ∧ z < S 1 0) ∨ (r = 0 ∧ ¬ (0 ≤ z ∧ z < S 1 0)))) := by
  refine MM.go b_G_isArc 2 (some .boolean) "NextPaths$Graph" [(0, .ref (a 1)), (1, .int (iI z))] (by decide) rfl rfl (Nat.le_of_ble_eq_true rfl) ?_
  intro p e s m args below meth c C hr hk
  refine g_iload_n C d_G_isArc_0 rfl rfl ?_
  refine g_iconst (z := 0) C d_G_isArc_1 rfl rfl ?_
  refine g_aload_n C d_G_isArc_2 rfl rfl ?_
  refine g_get C 1 1 i_G wX_1 rfl (by decide) k_G_40 rfl rfl d_G_isArc_3 rfl ?_
  refine g_iconst (z := 1) C d_G_isArc_6 rfl rfl ?_
  refine g_isub C d_G_isArc_7 rfl rfl ?_
  refine g_runI (wX_fix a ki kz kl kq) rfl (rn_SN C (m_N_liesIn hz (by decide) (by omega)) 3 kc_N_liesIn k_G_49 ks_N_liesIn kn_N hy_N_liesIn ⟨rfl, rfl⟩ ⟨by decide, by decide⟩ ⟨Nat.le_refl _, Nat.le_refl _⟩ rfl rfl (by decide) d_G_isArc_8) (fun r S' hp => ?_)
  obtain ⟨rfl, hp⟩ := hp
  refine g_zret C hr hk (by omega) d_G_isArc_11 ⟨_, rfl, ?_⟩
  exact ⟨rfl, by omega⟩

set_option maxRecDepth 100000 in
set_option maxHeartbeats 4000000 in
theorem m_G_areTwoNodes {l : Launch} {D : va_G} {a : Nat → Nat} {ki kz kl kq : ClassId} {S : Nat → Int → Int} {u v : Int} (hu : r32 u) (hv : r32 v) (hn : 0 ≤ S 0 0 ∧ S 0 0 ≤ 8) : MX l D a ki kz kl kq y_G_areTwoNodes b_G_areTwoNodes 3 (some .boolean) rm_G_areTwoNodes [.ref (a 1), .int (iI u), .int (iI v)] S (pI fun r S' => S' = S ∧ ((r = 1 ∧ 0 ≤ u ∧ u < S 0 0 ∧ 0 ≤ v ∧ v < S 0 0 ∧ u ≠ v) ∨ (r = 0 ∧ ¬ (0 ≤ u ∧ u < S 0 0 ∧ 0 ≤ v ∧ v < S 0 0 ∧ u ≠ v)))) := by
  refine MM.go b_G_areTwoNodes 3 (some .boolean) "NextPaths$Graph" [(0, .ref (a 1)), (1, .int (iI u)), (2, .int (iI v))] (by decide) rfl rfl (Nat.le_of_ble_eq_true rfl) ?_
  intro p e s m args below meth c C hr hk
  refine g_aload_n C d_G_areTwoNodes_0 rfl rfl ?_
  refine g_iload_n C d_G_areTwoNodes_1 rfl rfl ?_
  refine g_runI (wX_fix a ki kz kl kq) rfl (rn_V C (m_G_isNode hu hn) 1 1 wX_1 rfl rfl kc_G_isNode k_G_53 ki_G_isNode kx_G_isNode kn_G hy_G_isNode ⟨rfl, rfl⟩ ⟨by decide, by decide⟩ ⟨Nat.le_refl _, Nat.le_refl _⟩ rfl rfl (by decide) d_G_areTwoNodes_2) (fun r1 S' hp1 => ?_)
  obtain ⟨rfl, hp1⟩ := hp1
  refine g_if_eq (tgt := 25) C d_G_areTwoNodes_5 (by decide) rfl (by omega) (fun h5 => ?_) (fun h5 => ?_)
  · refine g_iconst (z := 0) C d_G_areTwoNodes_25 rfl rfl ?_
    refine g_zret C hr hk (by omega) d_G_areTwoNodes_26 ⟨_, rfl, ?_⟩
    exact ⟨rfl, by omega⟩
  · refine g_aload_n C d_G_areTwoNodes_8 rfl rfl ?_
    refine g_iload_n C d_G_areTwoNodes_9 rfl rfl ?_
    refine g_runI (wX_fix a ki kz kl kq) rfl (rn_V C (m_G_isNode hv hn) 1 1 wX_1 rfl rfl kc_G_isNode k_G_53 ki_G_isNode kx_G_isNode kn_G hy_G_isNode ⟨rfl, rfl⟩ ⟨by decide, by decide⟩ ⟨Nat.le_refl _, Nat.le_refl _⟩ rfl rfl (by decide) d_G_areTwoNodes_10) (fun r2 S' hp2 => ?_)
    obtain ⟨rfl, hp2⟩ := hp2
    refine g_if_eq (tgt := 25) C d_G_areTwoNodes_13 (by decide) rfl (by omega) (fun h13 => ?_) (fun h13 => ?_)
    · refine g_iconst (z := 0) C d_G_areTwoNodes_25 rfl rfl ?_
      refine g_zret C hr hk (by omega) d_G_areTwoNodes_26 ⟨_, rfl, ?_⟩
      exact ⟨rfl, by omega⟩
    · refine g_iload_n C d_G_areTwoNodes_16 rfl rfl ?_
      refine g_iload_n C d_G_areTwoNodes_17 rfl rfl ?_
      refine g_icmp_eq (tgt := 25) C d_G_areTwoNodes_18 (by decide) rfl (by omega) (by omega) (fun h18 => ?_) (fun h18 => ?_)
      · refine g_iconst (z := 0) C d_G_areTwoNodes_25 rfl rfl ?_
        refine g_zret C hr hk (by omega) d_G_areTwoNodes_26 ⟨_, rfl, ?_⟩
        exact ⟨rfl, by omega⟩
      · refine g_iconst (z := 1) C d_G_areTwoNodes_21 rfl rfl ?_
        refine g_goto (tgt := 26) C d_G_areTwoNodes_22 (by decide) ?_
        refine g_zret C hr hk (by omega) d_G_areTwoNodes_26 ⟨_, rfl, ?_⟩
        exact ⟨rfl, by omega⟩

set_option maxRecDepth 100000 in
set_option maxHeartbeats 4000000 in
theorem m_G_addNode {l : Launch} {D : va_G} {a : Nat → Nat} {ki kz kl kq : ClassId} {S : Nat → Int → Int}  (hn : 0 ≤ S 0 0 ∧ S 0 0 ≤ 8) : MX l D a ki kz kl kq y_G_addNode b_G_addNode 1 (some .int) rm_G_addNode [.ref (a 1)] S (pI fun r S' => (S 0 0 = 8 ∧ r = -3 ∧ S' = S) ∨ (S 0 0 < 8 ∧ r = S 0 0 ∧ S' = us S 0 0 (S 0 0 + 1))) := by
  refine MM.go b_G_addNode 1 (some .int) "NextPaths$Graph" [(0, .ref (a 1))] (by decide) rfl rfl (Nat.le_of_ble_eq_true rfl) ?_
  intro p e s m args below meth c C hr hk
  refine g_aload_n C d_G_addNode_0 rfl rfl ?_
  refine g_get C 1 0 i_G wX_1 rfl (by decide) k_G_36 rfl rfl d_G_addNode_1 rfl ?_
  refine g_bipush (z := 8) C d_G_addNode_4 rfl (by decide) ?_
  refine g_icmp_lt (tgt := 12) C d_G_addNode_6 (by decide) rfl (by omega) (by omega) (fun h6 => ?_) (fun h6 => ?_)
  · refine g_aload_n C d_G_addNode_12 rfl rfl ?_
    refine g_dup C d_G_addNode_13 rfl rfl ?_
    refine g_get C 1 0 i_G wX_1 rfl (by decide) k_G_36 rfl rfl d_G_addNode_14 rfl ?_
    refine g_iconst (z := 1) C d_G_addNode_17 rfl rfl ?_
    refine g_iadd C d_G_addNode_18 rfl rfl ?_
    refine g_put (ty := .int) C 1 0 ty_G i_G ty_G_ok n_G wX_1 rfl (by decide) k_G_36 rfl rfl (by decide +kernel) rfl rfl (Nat.le_of_ble_eq_true rfl) wX_p1_0 d_G_addNode_19 rfl ?_
    refine g_aload_n C d_G_addNode_22 rfl rfl ?_
    refine g_get C 1 0 i_G wX_1 rfl (by decide) k_G_36 rfl rfl d_G_addNode_23 rfl ?_
    refine g_iconst (z := 1) C d_G_addNode_26 rfl rfl ?_
    refine g_isub C d_G_addNode_27 rfl rfl ?_
    refine g_iret C hr hk d_G_addNode_28 ⟨_, rfl, ?_⟩
    exact Or.inr ⟨by omega, by simp [us, up_], rfl⟩
  · refine g_bipush (z := (-3)) C d_G_addNode_9 rfl (by decide) ?_
    refine g_iret C hr hk d_G_addNode_11 ⟨_, rfl, ?_⟩
    exact Or.inl ⟨by omega, rfl, rfl⟩
end
section
/-! the class: codes of paths, small methods -/
theorem lshl_c {z : Int} (k : Nat) (P : Int) (hz : 0 ≤ z) (hk : k < 64) (hP : (2 : Int) ^ k = P) : lI z <<< ((iI (k : Int)).toInt64 &&& 63) = lI (z * P) := by
  subst hP
  have := lshl_ok (z := z) (k := k) hz (by omega) (by omega)
  rw [Int.toNat_natCast] at this
  exact this
theorem lshr_c {z : Int} (k : Nat) (P : Int) (hz : 0 ≤ z) (hz2 : z < 4611686018427387904) (hk : k < 64) (hP : (2 : Int) ^ k = P) : lI z >>> ((iI (k : Int)).toInt64 &&& 63) = lI (z / P) := by
  subst hP
  have := lshr_ok (z := z) (k := k) hz hz2 (by omega) (by omega)
  rw [Int.toNat_natCast] at this
  exact this
theorem p38 : (2 : Int) ^ 38 = 274877906944 := by decide +kernel
theorem p35 : (2 : Int) ^ 35 = 34359738368 := by decide +kernel

set_option maxRecDepth 100000 in
set_option maxHeartbeats 4000000 in
theorem m_C_shiftOf {l : Launch} {D : va_G} {a : Nat → Nat} {ki kz kl kq : ClassId} {S : Nat → Int → Int} {i : Int}  : MX l D a ki kz kl kq y_C_shiftOf b_C_shiftOf 1 (some .int) rm_C_shiftOf [.int (iI i)] S (pI fun r S' => S' = S ∧ r = 5 * (6 - i)) := by
  refine MM.go b_C_shiftOf 1 (some .int) "NextPaths$PathCode" [(0, .int (iI i))] (by decide) rfl rfl (Nat.le_of_ble_eq_true rfl) ?_
  intro p e s m args below meth c C hr hk
  refine g_iconst (z := 5) C d_C_shiftOf_0 rfl rfl ?_
  refine g_bipush (z := 6) C d_C_shiftOf_1 rfl (by decide) ?_
  refine g_iload_n C d_C_shiftOf_3 rfl rfl ?_
  refine g_isub C d_C_shiftOf_4 rfl rfl ?_
  refine g_imul C d_C_shiftOf_5 rfl rfl ?_
  refine g_iret C hr hk d_C_shiftOf_6 ⟨_, rfl, ?_⟩
  exact ⟨rfl, rfl⟩

set_option maxRecDepth 100000 in
set_option maxHeartbeats 4000000 in
theorem m_C_arcAt {l : Launch} {D : va_G} {a : Nat → Nat} {ki kz kl kq : ClassId} {S : Nat → Int → Int} {k i : Int} (hk0 : 0 ≤ k ∧ k < 32) (hi : 0 ≤ i ∧ i ≤ 6) : MX l D a ki kz kl kq y_C_arcAt b_C_arcAt 2 (some .long) rm_C_arcAt [.int (iI k), .int (iI i)] S (pL fun r S' => S' = S ∧ r = k * 2 ^ (5 * (6 - i)).toNat) := by
  refine MM.go b_C_arcAt 2 (some .long) "NextPaths$PathCode" [(0, .int (iI k)), (1, .int (iI i))] (by decide) rfl rfl (Nat.le_of_ble_eq_true rfl) ?_
  intro p e s m args below meth c C hr hk
  refine g_iload_n C d_C_arcAt_0 rfl rfl ?_
  refine g_i2l (z := k) C d_C_arcAt_1 (i2l_ok (by omega)) rfl ?_
  refine g_iload_n C d_C_arcAt_2 rfl rfl ?_
  refine g_runI (wX_fix a ki kz kl kq) rfl (rn_S C (m_C_shiftOf) 1 kc_C_shiftOf k_C_11 ks_C_shiftOf kn_C hy_C_shiftOf ⟨rfl, rfl⟩ ⟨by decide, by decide⟩ ⟨Nat.le_refl _, Nat.le_refl _⟩ rfl rfl (Nat.le_of_ble_eq_true rfl) d_C_arcAt_3) (fun r S' hp => ?_)
  obtain ⟨rfl, rfl⟩ := hp
  refine g_lshl (z := (k * 2 ^ (5 * (6 - i)).toNat)) C d_C_arcAt_6 (lshl_ok (by omega) (by omega) (by omega)) rfl ?_
  refine g_lret C hr hk d_C_arcAt_7 ⟨_, rfl, ?_⟩
  exact ⟨rfl, rfl⟩

set_option maxRecDepth 100000 in
set_option maxHeartbeats 4000000 in
theorem m_C_head {l : Launch} {D : va_G} {a : Nat → Nat} {ki kz kl kq : ClassId} {S : Nat → Int → Int} {u n : Int} (hu : 0 ≤ u ∧ u ≤ 7000) (hn : 0 ≤ n ∧ n ≤ 7) : MX l D a ki kz kl kq y_C_head b_C_head 2 (some .long) rm_C_head [.int (iI u), .int (iI n)] S (pL fun r S' => S' = S ∧ r = u * 274877906944 + n * 34359738368) := by
  refine MM.go b_C_head 2 (some .long) "NextPaths$PathCode" [(0, .int (iI u)), (1, .int (iI n))] (by decide) rfl rfl (Nat.le_of_ble_eq_true rfl) ?_
  intro p e s m args below meth c C hr hk
  refine g_iload_n C d_C_head_0 rfl rfl ?_
  refine g_i2l (z := u) C d_C_head_1 (i2l_ok (by omega)) rfl ?_
  refine g_bipush (z := 38) C d_C_head_2 rfl (by decide) ?_
  refine g_lshl (z := (u * 274877906944)) C d_C_head_4 (lshl_c 38 _ (by omega) (by decide) p38) rfl ?_
  refine g_iload_n C d_C_head_5 rfl rfl ?_
  refine g_i2l (z := n) C d_C_head_6 (i2l_ok (by omega)) rfl ?_
  refine g_bipush (z := 35) C d_C_head_7 rfl (by decide) ?_
  refine g_lshl (z := (n * 34359738368)) C d_C_head_9 (lshl_c 35 _ (by omega) (by decide) p35) rfl ?_
  refine g_lor (z := (u * 274877906944 + n * 34359738368)) C d_C_head_10 (lor_ok 38 (by decide) (by omega) (by omega) (by omega) (by omega)) rfl ?_
  refine g_lret C hr hk d_C_head_11 ⟨_, rfl, ?_⟩
  exact ⟨rfl, rfl⟩

set_option maxRecDepth 100000 in
set_option maxHeartbeats 4000000 in
theorem m_C_weightIn {l : Launch} {D : va_G} {a : Nat → Nat} {ki kz kl kq : ClassId} {S : Nat → Int → Int} {x : Int} (hc : 0 ≤ x ∧ x < 2251799813685248) : MX l D a ki kz kl kq y_C_weightIn b_C_weightIn 2 (some .int) rm_C_weightIn [.long (lI x)] S (pI fun r S' => S' = S ∧ r = x / 274877906944) := by
  refine MM.go b_C_weightIn 2 (some .int) "NextPaths$PathCode" [(0, .long (lI x))] (by decide) rfl rfl (Nat.le_of_ble_eq_true rfl) ?_
  intro p e s m args below meth c C hr hk
  refine g_lload_n C d_C_weightIn_0 rfl rfl ?_
  refine g_bipush (z := 38) C d_C_weightIn_1 rfl (by decide) ?_
  refine g_lshr (z := (x / 274877906944)) C d_C_weightIn_3 (lshr_c 38 _ (by omega) (by omega) (by decide) p38) rfl ?_
  refine g_l2i C d_C_weightIn_4 rfl ?_
  refine g_iret C hr hk d_C_weightIn_5 ⟨_, rfl, ?_⟩
  exact ⟨rfl, rfl⟩

set_option maxRecDepth 100000 in
set_option maxHeartbeats 4000000 in
theorem m_C_lengthIn {l : Launch} {D : va_G} {a : Nat → Nat} {ki kz kl kq : ClassId} {S : Nat → Int → Int} {x : Int} (hc : 0 ≤ x ∧ x < 2251799813685248) : MX l D a ki kz kl kq y_C_lengthIn b_C_lengthIn 2 (some .int) rm_C_lengthIn [.long (lI x)] S (pI fun r S' => S' = S ∧ r = x / 34359738368 % 8) := by
  refine MM.go b_C_lengthIn 2 (some .int) "NextPaths$PathCode" [(0, .long (lI x))] (by decide) rfl rfl (Nat.le_of_ble_eq_true rfl) ?_
  intro p e s m args below meth c C hr hk
  refine g_lload_n C d_C_lengthIn_0 rfl rfl ?_
  refine g_bipush (z := 35) C d_C_lengthIn_1 rfl (by decide) ?_
  refine g_lshr (z := (x / 34359738368)) C d_C_lengthIn_3 (lshr_c 35 _ (by omega) (by omega) (by decide) p35) rfl ?_
  refine g_l2i C d_C_lengthIn_4 rfl ?_
  refine g_bipush (z := 7) C d_C_lengthIn_5 rfl (by decide) ?_
  refine g_iand (z := (x / 34359738368 % 8)) C d_C_lengthIn_7 (iand_ok 3 (by omega) (by decide)) rfl ?_
  refine g_iret C hr hk d_C_lengthIn_8 ⟨_, rfl, ?_⟩
  exact ⟨rfl, rfl⟩

set_option maxRecDepth 100000 in
set_option maxHeartbeats 4000000 in
theorem m_C_arcIn {l : Launch} {D : va_G} {a : Nat → Nat} {ki kz kl kq : ClassId} {S : Nat → Int → Int} {x i : Int} (hc : 0 ≤ x ∧ x < 2251799813685248) (hi : 0 ≤ i ∧ i ≤ 6) : MX l D a ki kz kl kq y_C_arcIn b_C_arcIn 3 (some .int) rm_C_arcIn [.long (lI x), .int (iI i)] S (pI fun r S' => S' = S ∧ r = ar_ x i) := by
  refine MM.go b_C_arcIn 3 (some .int) "NextPaths$PathCode" [(0, .long (lI x)), (2, .int (iI i))] (by decide) rfl rfl (Nat.le_of_ble_eq_true rfl) ?_
  intro p e s m args below meth c C hr hk
  refine g_lload_n C d_C_arcIn_0 rfl rfl ?_
  refine g_iload_n C d_C_arcIn_1 rfl rfl ?_
  refine g_runI (wX_fix a ki kz kl kq) rfl (rn_S C (m_C_shiftOf) 1 kc_C_shiftOf k_C_11 ks_C_shiftOf kn_C hy_C_shiftOf ⟨rfl, rfl⟩ ⟨by decide, by decide⟩ ⟨Nat.le_refl _, Nat.le_refl _⟩ rfl rfl (Nat.le_of_ble_eq_true rfl) d_C_arcIn_2) (fun r S' hp => ?_)
  obtain ⟨rfl, rfl⟩ := hp
  refine g_lshr (z := (x / 2 ^ (5 * (6 - i)).toNat)) C d_C_arcIn_5 (lshr_ok (by omega) (by omega) (by omega) (by omega)) rfl ?_
  refine g_l2i C d_C_arcIn_6 rfl ?_
  refine g_bipush (z := 31) C d_C_arcIn_7 rfl (by decide) ?_
  refine g_iand (z := (x / 2 ^ (5 * (6 - i)).toNat % 32)) C d_C_arcIn_9 (iand_ok 5 (Int.ediv_nonneg (by omega) (Int.le_of_lt (Int.pow_pos (by omega)))) (by decide)) rfl ?_
  refine g_iret C hr hk d_C_arcIn_10 ⟨_, rfl, ?_⟩
  exact ⟨rfl, rfl⟩

set_option maxRecDepth 100000 in
set_option maxHeartbeats 4000000 in
theorem m_H_empty {l : Launch} {D : va_G} {a : Nat → Nat} {ki kz kl kq : ClassId} {S : Nat → Int → Int}   : MX l D a ki kz kl kq y_H_empty b_H_empty 1 none rm_H_empty [.ref (a 17)] S (pV fun S' => S' = us S 17 0 0) := by
  refine MM.go b_H_empty 1 none "NextPaths$PathHeap" [(0, .ref (a 17))] (by decide) rfl rfl (Nat.le_of_ble_eq_true rfl) ?_
  intro p e s m args below meth c C hr hk
  refine g_aload_n C d_H_empty_0 rfl rfl ?_
  refine g_iconst (z := 0) C d_H_empty_1 rfl rfl ?_
  refine g_put (ty := .int) C 17 1 ty_H i_H ty_H_ok n_H wX_17 rfl (by decide) k_H_15 rfl rfl (by decide +kernel) rfl rfl (Nat.le_of_ble_eq_true rfl) wX_p17_1 d_H_empty_2 rfl ?_
  refine g_vret C hr hk d_H_empty_5 ⟨rfl, ?_⟩
  rfl

set_option maxRecDepth 100000 in
set_option maxHeartbeats 4000000 in
theorem m_T_empty {l : Launch} {D : va_G} {a : Nat → Nat} {ki kz kl kq : ClassId} {S : Nat → Int → Int}   : MX l D a ki kz kl kq y_T_empty b_T_empty 1 none rm_T_empty [.ref (a 22)] S (pV fun S' => S' = us S 31 0 0) := by
  refine MM.go b_T_empty 1 none "NextPaths$ToldPath" [(0, .ref (a 22))] (by decide) rfl rfl (Nat.le_of_ble_eq_true rfl) ?_
  intro p e s m args below meth c C hr hk
  refine g_aload_n C d_T_empty_0 rfl rfl ?_
  refine g_iconst (z := 0) C d_T_empty_1 rfl rfl ?_
  refine g_put (ty := .int) C 22 1 ty_T i_T ty_T_ok n_T wX_22 rfl (by decide) k_T_15 rfl rfl (by decide +kernel) rfl rfl (Nat.le_of_ble_eq_true rfl) wX_p22_1 d_T_empty_2 rfl ?_
  refine g_vret C hr hk d_T_empty_5 ⟨rfl, ?_⟩
  rfl

set_option maxRecDepth 100000 in
set_option maxHeartbeats 4000000 in
theorem m_B_empty {l : Launch} {D : va_G} {a : Nat → Nat} {ki kz kl kq : ClassId} {S : Nat → Int → Int}   : MX l D a ki kz kl kq y_B_empty b_B_empty 1 none rm_B_empty [.ref (a 24)] S (pV fun S' => S' = us S 36 0 0) := by
  refine MM.go b_B_empty 1 none "NextPaths$BestPairs" [(0, .ref (a 24))] (by decide) rfl rfl (Nat.le_of_ble_eq_true rfl) ?_
  intro p e s m args below meth c C hr hk
  refine g_aload_n C d_B_empty_0 rfl rfl ?_
  refine g_iconst (z := 0) C d_B_empty_1 rfl rfl ?_
  refine g_put (ty := .int) C 24 2 ty_B i_B ty_B_ok n_B wX_24 rfl (by decide) k_B_18 rfl rfl (by decide +kernel) rfl rfl (Nat.le_of_ble_eq_true rfl) wX_p24_2 d_B_empty_2 rfl ?_
  refine g_vret C hr hk d_B_empty_5 ⟨rfl, ?_⟩
  rfl

set_option maxRecDepth 100000 in
set_option maxHeartbeats 4000000 in
theorem m_G_empty {l : Launch} {D : va_G} {a : Nat → Nat} {ki kz kl kq : ClassId} {S : Nat → Int → Int}   : MX l D a ki kz kl kq y_G_empty b_G_empty 1 none rm_G_empty [.ref (a 1)] S (pV fun S' => S' = fl (us (us S 0 0 0) 1 0 0) 7 8 0) := by
  refine MM.go b_G_empty 1 none "NextPaths$Graph" [(0, .ref (a 1))] (by decide) rfl rfl (Nat.le_of_ble_eq_true rfl) ?_
  intro p e s m args below meth c C hr hk
  refine g_aload_n C d_G_empty_0 rfl rfl ?_
  refine g_iconst (z := 0) C d_G_empty_1 rfl rfl ?_
  refine g_put (ty := .int) C 1 0 ty_G i_G ty_G_ok n_G wX_1 rfl (by decide) k_G_36 rfl rfl (by decide +kernel) rfl rfl (Nat.le_of_ble_eq_true rfl) wX_p1_0 d_G_empty_2 rfl ?_
  refine g_aload_n C d_G_empty_5 rfl rfl ?_
  refine g_iconst (z := 0) C d_G_empty_6 rfl rfl ?_
  refine g_put (ty := .int) C 1 1 ty_G i_G ty_G_ok n_G wX_1 rfl (by decide) k_G_40 rfl rfl (by decide +kernel) rfl rfl (Nat.le_of_ble_eq_true rfl) wX_p1_1 d_G_empty_7 rfl ?_
  refine g_aload_n C d_G_empty_10 rfl rfl ?_
  refine g_get C 1 8 i_G wX_1 rfl (by decide) k_G_33 rfl rfl d_G_empty_11 rfl ?_
  refine g_iconst (z := 0) C d_G_empty_14 rfl rfl ?_
  refine g_run0 (w := wX a ki kz kl kq) (q1 := a 16) (g := fun f => .inl (ki, 8, .inl (ia f))) (y := us (us S 0 0 0) 1 0 0 7) (nx := fun f i => if i = 7 then f else us (us S 0 0 0) 1 0 0 i) 16 rfl (fun _ _ => rfl) (fun _ _ h => h.1) rfl (rn_S C (m_J_fill (q := a 16) (N := 8) (by decide)) 2 kc_J_fill k_G_43 ks_J_fill kn_J hy_J_fill ⟨rfl, rfl⟩ ⟨by decide, by decide⟩ ⟨Nat.le_refl _, Nat.le_refl _⟩ rfl rfl (Nat.le_of_ble_eq_true rfl) d_G_empty_15) (fun y hy => ?_)
  refine g_vret C hr hk d_G_empty_18 ⟨rfl, ?_⟩
  obtain ⟨-, rfl⟩ := hy
  funext i
  unfold fl
  by_cases e7 : i = 7
  · subst e7; rfl
  · rw [if_neg e7, if_neg e7]

set_option maxRecDepth 100000 in
set_option maxHeartbeats 4000000 in
theorem m_G_addArc {l : Launch} {D : va_G} {a : Nat → Nat} {ki kz kl kq : ClassId} {S : Nat → Int → Int} {u v w1 w2 : Int} (hn : 0 ≤ S 1 0 ∧ S 1 0 ≤ 20) (hu : 0 ≤ u ∧ u < 8) (hs : 0 ≤ S 7 u ∧ S 7 u ≤ S 1 0) : MX l D a ki kz kl kq y_G_addArc b_G_addArc 6 (some .int) rm_G_addArc [.ref (a 1), .int (iI u), .int (iI v), .int (iI w1), .int (iI w2)] S (pI fun r S' => (S 1 0 = 20 ∧ r = -3 ∧ S' = S) ∨ (S 1 0 < 20 ∧ r = S 1 0 ∧ S' = us (us (us (us (us (us (us (us S 2 (S 1 0) u) 3 (S 1 0) v) 4 (S 1 0) w1) 5 (S 1 0) w2) 6 (S 1 0) 0) (8 + u.toNat) (S 7 u) (S 1 0)) 7 u (S 7 u + 1)) 1 0 (S 1 0 + 1))) := by
  refine MM.go b_G_addArc 6 (some .int) "NextPaths$Graph" [(0, .ref (a 1)), (1, .int (iI u)), (2, .int (iI v)), (3, .int (iI w1)), (4, .int (iI w2))] (by decide) rfl rfl (Nat.le_of_ble_eq_true rfl) ?_
  intro p e s m args below meth c C hr hk
  refine g_aload_n C d_G_addArc_0 rfl rfl ?_
  refine g_get C 1 1 i_G wX_1 rfl (by decide) k_G_40 rfl rfl d_G_addArc_1 rfl ?_
  refine g_bipush (z := 20) C d_G_addArc_4 rfl (by decide) ?_
  refine g_icmp_lt (tgt := 12) C d_G_addArc_6 (by decide) rfl (by omega) (by omega) (fun h6 => ?_) (fun h6 => ?_)
  · refine g_aload_n C d_G_addArc_12 rfl rfl ?_
    refine g_get C 1 1 i_G wX_1 rfl (by decide) k_G_40 rfl rfl d_G_addArc_13 rfl ?_
    refine g_nm (fun n e_n => ?_)
    refine g_istore (lv' := [(5, .int (iI n)), (0, .ref (a 1)), (1, .int (iI u)), (2, .int (iI v)), (3, .int (iI w1)), (4, .int (iI w2))]) C d_G_addArc_16 (by decide) rfl rfl ?_
    refine g_aload_n C d_G_addArc_18 rfl rfl ?_
    refine g_get C 1 2 i_G wX_1 rfl (by decide) k_G_9 rfl rfl d_G_addArc_19 rfl ?_
    refine g_iload C d_G_addArc_22 rfl rfl ?_
    refine g_iload_n C d_G_addArc_24 rfl rfl ?_
    refine g_iast C 2 0 wX_2 rfl (by omega) (by omega) (by decide) wX_s2 d_G_addArc_25 rfl ?_
    refine g_aload_n C d_G_addArc_26 rfl rfl ?_
    refine g_get C 1 3 i_G wX_1 rfl (by decide) k_G_15 rfl rfl d_G_addArc_27 rfl ?_
    refine g_iload C d_G_addArc_30 rfl rfl ?_
    refine g_iload_n C d_G_addArc_32 rfl rfl ?_
    refine g_iast C 3 0 wX_3 rfl (by omega) (by omega) (by decide) wX_s3 d_G_addArc_33 rfl ?_
    refine g_aload_n C d_G_addArc_34 rfl rfl ?_
    refine g_get C 1 4 i_G wX_1 rfl (by decide) k_G_18 rfl rfl d_G_addArc_35 rfl ?_
    refine g_iload C d_G_addArc_38 rfl rfl ?_
    refine g_iload_n C d_G_addArc_40 rfl rfl ?_
    refine g_iast C 4 0 wX_4 rfl (by omega) (by omega) (by decide) wX_s4 d_G_addArc_41 rfl ?_
    refine g_aload_n C d_G_addArc_42 rfl rfl ?_
    refine g_get C 1 5 i_G wX_1 rfl (by decide) k_G_21 rfl rfl d_G_addArc_43 rfl ?_
    refine g_iload C d_G_addArc_46 rfl rfl ?_
    refine g_iload C d_G_addArc_48 rfl rfl ?_
    refine g_iast C 5 0 wX_5 rfl (by omega) (by omega) (by decide) wX_s5 d_G_addArc_50 rfl ?_
    refine g_aload_n C d_G_addArc_51 rfl rfl ?_
    refine g_get C 1 6 i_G wX_1 rfl (by decide) k_G_24 rfl rfl d_G_addArc_52 rfl ?_
    refine g_iload C d_G_addArc_55 rfl rfl ?_
    refine g_iconst (z := 0) C d_G_addArc_57 rfl rfl ?_
    refine g_zast C 6 1 wX_6 rfl (by omega) (by omega) (by decide) (by omega) wX_s6 d_G_addArc_58 rfl ?_
    refine g_aload_n C d_G_addArc_59 rfl rfl ?_
    refine g_get C 1 7 i_G wX_1 rfl (by decide) k_G_30 rfl rfl d_G_addArc_60 rfl ?_
    refine g_iload_n C d_G_addArc_63 rfl rfl ?_
    refine g_aald (z := u) C 7 3 wX_7 rfl (by omega) (by omega) (by decide) (if_pos (by omega)) d_G_addArc_64 rfl ?_
    refine g_aload_n C d_G_addArc_65 rfl rfl ?_
    refine g_get C 1 8 i_G wX_1 rfl (by decide) k_G_33 rfl rfl d_G_addArc_66 rfl ?_
    refine g_iload_n C d_G_addArc_69 rfl rfl ?_
    refine g_iald C 16 0 wX_16 rfl (by omega) (by omega) (by decide) d_G_addArc_70 rfl ?_
    refine g_v (z' := S 7 u) rfl ?_
    refine g_iload C d_G_addArc_71 rfl rfl ?_
    refine g_iast C (8 + u.toNat) 0 (wX_row (by omega)) rfl (by omega) (by omega) (by decide) (wX_srow (by omega)) d_G_addArc_73 rfl ?_
    refine g_aload_n C d_G_addArc_74 rfl rfl ?_
    refine g_get C 1 8 i_G wX_1 rfl (by decide) k_G_33 rfl rfl d_G_addArc_75 rfl ?_
    refine g_iload_n C d_G_addArc_78 rfl rfl ?_
    refine g_dup2 C d_G_addArc_79 rfl rfl rfl ?_
    refine g_iald C 16 0 wX_16 rfl (by omega) (by omega) (by decide) d_G_addArc_80 rfl ?_
    refine g_v (z' := S 7 u) (by rw [us_n (by omega)]; rfl) ?_
    refine g_iconst (z := 1) C d_G_addArc_81 rfl rfl ?_
    refine g_iadd C d_G_addArc_82 rfl rfl ?_
    refine g_iast C 16 0 wX_16 rfl (by omega) (by omega) (by decide) wX_s16 d_G_addArc_83 rfl ?_
    refine g_aload_n C d_G_addArc_84 rfl rfl ?_
    refine g_dup C d_G_addArc_85 rfl rfl ?_
    refine g_get C 1 1 i_G wX_1 rfl (by decide) k_G_40 rfl rfl d_G_addArc_86 rfl ?_
    refine g_v (z' := S 1 0) (by rw [us_n (by decide), us_n (by omega)]; rfl) ?_
    refine g_iconst (z := 1) C d_G_addArc_89 rfl rfl ?_
    refine g_iadd C d_G_addArc_90 rfl rfl ?_
    refine g_put (ty := .int) C 1 1 ty_G i_G ty_G_ok n_G wX_1 rfl (by decide) k_G_40 rfl rfl (by decide +kernel) rfl rfl (Nat.le_of_ble_eq_true rfl) wX_p1_1 d_G_addArc_91 rfl ?_
    refine g_iload C d_G_addArc_94 rfl rfl ?_
    refine g_iret C hr hk d_G_addArc_96 ⟨_, rfl, ?_⟩
    subst e_n
    exact Or.inr ⟨by omega, rfl, rfl⟩
  · refine g_bipush (z := (-3)) C d_G_addArc_9 rfl (by decide) ?_
    refine g_iret C hr hk d_G_addArc_11 ⟨_, rfl, ?_⟩
    exact Or.inl ⟨by omega, rfl, rfl⟩
end
section
/-! the class: the heap -/
theorem idiv2_ok {z : Int} (h0 : 0 ≤ z) (h1 : z < 2147483648) : iI z / iI 2 = iI (z / 2) := by
  rw [nI_iI h0, show iI 2 = nI 2 from rfl, pk_div (by omega) (by omega) (by omega), nI_iI (by omega)]
  congr 1
  omega
abbrev r62 (z : Int) : Prop := 0 ≤ z ∧ z < 4611686018427387904
/-- the heap has n numbers in order, S0's and x -/
def hadd (S0 S : Nat → Int → Int) (x : Int) (n : Nat) : Prop := eqx [16, 17] S0 S ∧ S 17 0 = n + 1 ∧ hp (S 16) (n + 1) ∧ (∀ v, ct (S 16) v (n + 1) = ct (S0 16) v n + (if x = v then 1 else 0)) ∧ ∀ i : Int, 0 ≤ i → i < n + 1 → r62 (S 16 i)
def haddI (S0 S : Nat → Int → Int) (x q : Int) (n : Nat) : Prop := eqx [16, 17] S0 S ∧ S 17 0 = n + 1 ∧ hu (S 16) x q (n + 1) ∧ (∀ v, ct (up_ (S 16) q x) v (n + 1) = ct (S0 16) v n + (if x = v then 1 else 0)) ∧ ∀ i : Int, 0 ≤ i → i < n + 1 → i ≠ q → r62 (S 16 i)
theorem eqx_us {l : List Nat} {S0 S : Nat → Int → Int} {k : Nat} {z v : Int} (h : eqx l S0 S) (hk : k ∈ l) : eqx l S0 (us S k z v) := fun j hj => by
  have hne : j ≠ k := fun e => hj (by rw [e]; exact hk)
  rw [us_n hne]
  exact h j hj
theorem eqx_rf {l : List Nat} {S : Nat → Int → Int} : eqx l S S := fun _ _ => rfl
theorem eqx_tr {l : List Nat} {S S1 S2 : Nat → Int → Int} (h : eqx l S S1) (h2 : eqx l S1 S2) : eqx l S S2 := fun k hk => (h2 k hk).trans (h k hk)
theorem eqx_mono {l l' : List Nat} {S S1 : Nat → Int → Int} (h : eqx l S S1) (hs : ∀ k, k ∈ l → k ∈ l') : eqx l' S S1 := fun k hk => h k (fun q => hk (hs k q))
theorem hadd_fin {S0 S : Nat → Int → Int} {x q : Int} {n : Nat} (h : haddI S0 S x q n) (hx : r62 x) (hc : q = 0 ∨ S 16 ((q - 1) / 2) ≤ x) : hadd S0 (us S 16 q x) x n := by
  obtain ⟨h1, h2, h3, h4, h5⟩ := h
  refine ⟨eqx_us h1 (by simp), by rw [us_n (by decide)]; exact h2, ?_, fun v => ?_, fun i i0 i1 => ?_⟩
  · rw [us_s]; exact hu_end h3 hc
  · rw [us_s]; exact h4 v
  · rw [us_s]
    by_cases e : i = q
    · rw [e, up_s]; exact hx
    · rw [up_n e]; exact h5 i i0 i1 e
theorem hadd_step {S0 S : Nat → Int → Int} {x q : Int} {n : Nat} (h : haddI S0 S x q n) (h0 : 0 < q) (hc : x < S 16 ((q - 1) / 2)) : haddI S0 (us S 16 q (S 16 ((q - 1) / 2))) x ((q - 1) / 2) n := by
  obtain ⟨h1, h2, h3, h4, h5⟩ := h
  have hq := h3.2.1
  refine ⟨eqx_us h1 (by simp), by rw [us_n (by decide)]; exact h2, ?_, fun v => ?_, fun i i0 i1 hne => ?_⟩
  · rw [us_s]; exact hu_step h3 h0 hc
  · rw [us_s, hl_move (by omega) (by omega) (by omega) (by omega) (by omega)]; exact h4 v
  · rw [us_s]
    by_cases e : i = q
    · rw [e, up_s]; exact h5 _ (by omega) (by omega) (by omega)
    · rw [up_n e]; exact h5 i i0 i1 e

set_option maxRecDepth 100000 in
set_option maxHeartbeats 4000000 in
theorem lo_H_add {l : Launch} {D : va_G} {a : Nat → Nat} {ki kz kl kq : ClassId} {p : Program} {e : Env} {s : State} {m : MethodId} {args : Array Value} {below : List Frame} {meth : Method} {c : Code} {S0 : Nat → Int → Int} {x : Int} {n : Nat} (hx : r62 x) (hn : n < 1458) (C : CX p s m args c b_H_add 4 "NextPaths$PathHeap" TT D cls (tyz ki kz kl kq)) (hr : meth.sig.returnType = none) (hk : meth.locks = false) : ∀ (k : Nat) (q : Int) (S : Nat → Int → Int), q.toNat ≤ k → haddI S0 S x q n → GG p l e rm_H_add s m args below meth c D cls (adr (wX a ki kz kl kq S0)) 4 0 0 (MQ below (QcW D cls (wX a ki kz kl kq) S0 (pV fun S' => hadd S0 S' x n)) args s 0 0 (adr (wX a ki kz kl kq S0))) (wX a ki kz kl kq) S [(3, .int (iI q)), (0, .ref (a 17)), (1, .long (lI x))] 26 [] := by
  intro k
  induction k with
  | zero =>
    intro q S hk0 hI
    have hq := hI.2.2.1.1
    have hq1 := hI.2.2.1.2.1
    refine g_iload_n C d_H_add_26 rfl rfl ?_
    refine g_if_le (tgt := 70) C d_H_add_27 (by decide) rfl (by omega) (fun h27 => ?_) (fun h27 => ?_)
    · refine g_aload_n C d_H_add_70 rfl rfl ?_
      refine g_get C 17 0 i_H wX_17 rfl (by decide) k_H_9 rfl rfl d_H_add_71 rfl ?_
      refine g_iload_n C d_H_add_74 rfl rfl ?_
      refine g_lload_n C d_H_add_75 rfl rfl ?_
      refine g_last C 18 2 wX_18 rfl (by omega) (by omega) (by decide) wX_s18 d_H_add_76 rfl ?_
      refine g_vret C hr hk d_H_add_77 ⟨rfl, ?_⟩
      refine hadd_fin hI hx ?_
      first
        | (left; omega)
        | (right; exact sg_le.mp h42)
    · exact absurd h27 (by omega)
  | succ k ih =>
    intro q S hk0 hI
    have hq := hI.2.2.1.1
    have hq1 := hI.2.2.1.2.1
    refine g_iload_n C d_H_add_26 rfl rfl ?_
    refine g_if_le (tgt := 70) C d_H_add_27 (by decide) rfl (by omega) (fun h27 => ?_) (fun h27 => ?_)
    · refine g_aload_n C d_H_add_70 rfl rfl ?_
      refine g_get C 17 0 i_H wX_17 rfl (by decide) k_H_9 rfl rfl d_H_add_71 rfl ?_
      refine g_iload_n C d_H_add_74 rfl rfl ?_
      refine g_lload_n C d_H_add_75 rfl rfl ?_
      refine g_last C 18 2 wX_18 rfl (by omega) (by omega) (by decide) wX_s18 d_H_add_76 rfl ?_
      refine g_vret C hr hk d_H_add_77 ⟨rfl, ?_⟩
      refine hadd_fin hI hx ?_
      first
        | (left; omega)
        | (right; exact sg_le.mp h42)
    · refine g_aload_n C d_H_add_30 rfl rfl ?_
      refine g_get C 17 0 i_H wX_17 rfl (by decide) k_H_9 rfl rfl d_H_add_31 rfl ?_
      refine g_iload_n C d_H_add_34 rfl rfl ?_
      refine g_iconst (z := 1) C d_H_add_35 rfl rfl ?_
      refine g_isub C d_H_add_36 rfl rfl ?_
      refine g_iconst (z := 2) C d_H_add_37 rfl rfl ?_
      refine g_idiv (z := ((q - 1) / 2)) C d_H_add_38 (by decide) (idiv2_ok (by omega) (by omega)) rfl ?_
      refine g_lald C 18 2 wX_18 rfl (by omega) (by omega) (by decide) d_H_add_39 rfl ?_
      refine g_lload_n C d_H_add_40 rfl rfl ?_
      refine g_lcmp C d_H_add_41 (by have := hI.2.2.2.2 ((q - 1) / 2) (by omega) (by omega) (by omega); omega) (by omega) rfl ?_
      refine g_if_le (tgt := 70) C d_H_add_42 (by decide) rfl (sg_r _ _) (fun h42 => ?_) (fun h42 => ?_)
      · refine g_aload_n C d_H_add_70 rfl rfl ?_
        refine g_get C 17 0 i_H wX_17 rfl (by decide) k_H_9 rfl rfl d_H_add_71 rfl ?_
        refine g_iload_n C d_H_add_74 rfl rfl ?_
        refine g_lload_n C d_H_add_75 rfl rfl ?_
        refine g_last C 18 2 wX_18 rfl (by omega) (by omega) (by decide) wX_s18 d_H_add_76 rfl ?_
        refine g_vret C hr hk d_H_add_77 ⟨rfl, ?_⟩
        refine hadd_fin hI hx ?_
        first
          | (left; omega)
          | (right; exact sg_le.mp h42)
      · refine g_aload_n C d_H_add_45 rfl rfl ?_
        refine g_get C 17 0 i_H wX_17 rfl (by decide) k_H_9 rfl rfl d_H_add_46 rfl ?_
        refine g_iload_n C d_H_add_49 rfl rfl ?_
        refine g_aload_n C d_H_add_50 rfl rfl ?_
        refine g_get C 17 0 i_H wX_17 rfl (by decide) k_H_9 rfl rfl d_H_add_51 rfl ?_
        refine g_iload_n C d_H_add_54 rfl rfl ?_
        refine g_iconst (z := 1) C d_H_add_55 rfl rfl ?_
        refine g_isub C d_H_add_56 rfl rfl ?_
        refine g_iconst (z := 2) C d_H_add_57 rfl rfl ?_
        refine g_idiv (z := ((q - 1) / 2)) C d_H_add_58 (by decide) (idiv2_ok (by omega) (by omega)) rfl ?_
        refine g_lald C 18 2 wX_18 rfl (by omega) (by omega) (by decide) d_H_add_59 rfl ?_
        refine g_last C 18 2 wX_18 rfl (by omega) (by omega) (by decide) wX_s18 d_H_add_60 rfl ?_
        refine g_iload_n C d_H_add_61 rfl rfl ?_
        refine g_iconst (z := 1) C d_H_add_62 rfl rfl ?_
        refine g_isub C d_H_add_63 rfl rfl ?_
        refine g_iconst (z := 2) C d_H_add_64 rfl rfl ?_
        refine g_idiv (z := ((q - 1) / 2)) C d_H_add_65 (by decide) (idiv2_ok (by omega) (by omega)) rfl ?_
        refine g_nm (fun q2 e_q2 => ?_)
        refine g_istore_n (lv' := [(3, .int (iI q2)), (0, .ref (a 17)), (1, .long (lI x))]) C d_H_add_66 (by decide) rfl rfl ?_
        refine g_goto (tgt := 26) C d_H_add_67 (by decide) ?_
        refine GG.lvs (lv' := [(3, .int (iI q2)), (0, .ref (a 17)), (1, .long (lI x))]) (by simp [lk]) ?_
        subst e_q2
        exact ih _ _ (by omega) (hadd_step hI (by omega) (sg_gt.mp h42))

set_option maxRecDepth 100000 in
set_option maxHeartbeats 4000000 in
theorem m_H_add {l : Launch} {D : va_G} {a : Nat → Nat} {ki kz kl kq : ClassId} {S : Nat → Int → Int} {x : Int} {n : Nat} (hx : r62 x) (hs : S 17 0 = n) (hn : n < 1458) (hh : hp (S 16) n) (hb : ∀ i : Int, 0 ≤ i → i < n → r62 (S 16 i)) : MX l D a ki kz kl kq y_H_add b_H_add 4 none rm_H_add [.ref (a 17), .long (lI x)] S (pV fun S' => hadd S S' x n) := by
  refine MM.go b_H_add 4 none "NextPaths$PathHeap" [(0, .ref (a 17)), (1, .long (lI x))] (by decide) rfl rfl (Nat.le_of_ble_eq_true rfl) ?_
  intro p e s m args below meth c C hr hk
  refine g_aload_n C d_H_add_0 rfl rfl ?_
  refine g_get C 17 1 i_H wX_17 rfl (by decide) k_H_15 rfl rfl d_H_add_1 rfl ?_
  refine g_sipush (z := 1458) C d_H_add_4 rfl (by decide) ?_
  refine g_icmp_lt (tgt := 11) C d_H_add_7 (by decide) rfl (by omega) (by omega) (fun h7 => ?_) (fun h7 => ?_)
  · refine g_aload_n C d_H_add_11 rfl rfl ?_
    refine g_get C 17 1 i_H wX_17 rfl (by decide) k_H_15 rfl rfl d_H_add_12 rfl ?_
    refine g_nm (fun q e_q => ?_)
    refine g_istore_n (lv' := [(3, .int (iI q)), (0, .ref (a 17)), (1, .long (lI x))]) C d_H_add_15 (by decide) rfl rfl ?_
    refine g_aload_n C d_H_add_16 rfl rfl ?_
    refine g_dup C d_H_add_17 rfl rfl ?_
    refine g_get C 17 1 i_H wX_17 rfl (by decide) k_H_15 rfl rfl d_H_add_18 rfl ?_
    refine g_iconst (z := 1) C d_H_add_21 rfl rfl ?_
    refine g_iadd C d_H_add_22 rfl rfl ?_
    refine g_put (ty := .int) C 17 1 ty_H i_H ty_H_ok n_H wX_17 rfl (by decide) k_H_15 rfl rfl (by decide +kernel) rfl rfl (Nat.le_of_ble_eq_true rfl) wX_p17_1 d_H_add_23 rfl ?_
    subst e_q
    refine lo_H_add hx hn C hr hk n _ _ (by omega) ⟨eqx_us eqx_rf (by simp), by rw [us_s, up_s]; omega, ?_, fun v => ?_, fun i i0 i1 hne => ?_⟩
    · rw [us_n (by decide), hs]; exact hu_0 hh x
    · rw [us_n (by decide), hs, ct_s, up_s]
      rw [ct_congr v n (f := up_ (S 16) n x) (g := S 16) (fun j _ hj => up_n (by omega))]
    · rw [us_n (by decide)]; exact hb i i0 (by omega)
  · exact absurd h7 (by omega)

set_option maxRecDepth 100000 in
set_option maxHeartbeats 4000000 in
theorem m_H_lesserChild {l : Launch} {D : va_G} {a : Nat → Nat} {ki kz kl kq : ClassId} {S : Nat → Int → Int} {q : Int} {n : Nat} (hs : S 17 0 = n) (hn : n ≤ 1458) (hq : 0 ≤ q ∧ q < n) (hb : ∀ i : Int, 0 ≤ i → i < n → r62 (S 16 i)) : MX l D a ki kz kl kq y_H_lesserChild b_H_lesserChild 4 (some .int) rm_H_lesserChild [.ref (a 17), .int (iI q)] S (pI fun r S' => S' = S ∧ lc (S 16) q r n) := by
  refine MM.go b_H_lesserChild 4 (some .int) "NextPaths$PathHeap" [(0, .ref (a 17)), (1, .int (iI q))] (by decide) rfl rfl (Nat.le_of_ble_eq_true rfl) ?_
  intro p e s m args below meth c C hr hk
  refine g_iconst (z := 2) C d_H_lesserChild_0 rfl rfl ?_
  refine g_iload_n C d_H_lesserChild_1 rfl rfl ?_
  refine g_imul C d_H_lesserChild_2 rfl rfl ?_
  refine g_iconst (z := 1) C d_H_lesserChild_3 rfl rfl ?_
  refine g_iadd C d_H_lesserChild_4 rfl rfl ?_
  refine g_nm (fun cl e_cl => ?_)
  refine g_istore_n (lv' := [(2, .int (iI cl)), (0, .ref (a 17)), (1, .int (iI q))]) C d_H_lesserChild_5 (by decide) rfl rfl ?_
  refine g_iload_n C d_H_lesserChild_6 rfl rfl ?_
  refine g_iconst (z := 1) C d_H_lesserChild_7 rfl rfl ?_
  refine g_iadd C d_H_lesserChild_8 rfl rfl ?_
  refine g_nm (fun cr e_cr => ?_)
  refine g_istore_n (lv' := [(3, .int (iI cr)), (2, .int (iI cl)), (0, .ref (a 17)), (1, .int (iI q))]) C d_H_lesserChild_9 (by decide) rfl rfl ?_
  refine g_iload_n C d_H_lesserChild_10 rfl rfl ?_
  refine g_aload_n C d_H_lesserChild_11 rfl rfl ?_
  refine g_get C 17 1 i_H wX_17 rfl (by decide) k_H_15 rfl rfl d_H_lesserChild_12 rfl ?_
  refine g_icmp_ge (tgt := 38) C d_H_lesserChild_15 (by decide) rfl (by omega) (by omega) (fun h15 => ?_) (fun h15 => ?_)
  · refine g_iload_n C d_H_lesserChild_38 rfl rfl ?_
    refine g_iret C hr hk d_H_lesserChild_39 ⟨_, rfl, ?_⟩
    refine ⟨rfl, by omega, fun hc i i0 i1 hp => ?_, fun hc i i0 i1 hp => ?_⟩
    · rcases (show i = cl ∨ i = cr by omega) with rfl | rfl
      · first
          | exact Int.le_refl _
          | exact Int.le_of_lt (sg_lt.mp h31)
      · first
          | exact Int.le_refl _
          | exact sg_ge.mp h31
          | omega
    · omega
  · refine g_aload_n C d_H_lesserChild_18 rfl rfl ?_
    refine g_get C 17 0 i_H wX_17 rfl (by decide) k_H_9 rfl rfl d_H_lesserChild_19 rfl ?_
    refine g_iload_n C d_H_lesserChild_22 rfl rfl ?_
    refine g_lald C 18 2 wX_18 rfl (by omega) (by omega) (by decide) d_H_lesserChild_23 rfl ?_
    refine g_aload_n C d_H_lesserChild_24 rfl rfl ?_
    refine g_get C 17 0 i_H wX_17 rfl (by decide) k_H_9 rfl rfl d_H_lesserChild_25 rfl ?_
    refine g_iload_n C d_H_lesserChild_28 rfl rfl ?_
    refine g_lald C 18 2 wX_18 rfl (by omega) (by omega) (by decide) d_H_lesserChild_29 rfl ?_
    refine g_lcmp C d_H_lesserChild_30 (by have := hb cr (by omega) (by omega); omega) (by have := hb cl (by omega) (by omega); omega) rfl ?_
    refine g_if_ge (tgt := 38) C d_H_lesserChild_31 (by decide) rfl (sg_r _ _) (fun h31 => ?_) (fun h31 => ?_)
    · refine g_iload_n C d_H_lesserChild_38 rfl rfl ?_
      refine g_iret C hr hk d_H_lesserChild_39 ⟨_, rfl, ?_⟩
      refine ⟨rfl, by omega, fun hc i i0 i1 hp => ?_, fun hc i i0 i1 hp => ?_⟩
      · rcases (show i = cl ∨ i = cr by omega) with rfl | rfl
        · first
            | exact Int.le_refl _
            | exact Int.le_of_lt (sg_lt.mp h31)
        · first
            | exact Int.le_refl _
            | exact sg_ge.mp h31
            | omega
      · omega
    · refine g_iload_n C d_H_lesserChild_34 rfl rfl ?_
      refine g_goto (tgt := 39) C d_H_lesserChild_35 (by decide) ?_
      refine g_iret C hr hk d_H_lesserChild_39 ⟨_, rfl, ?_⟩
      refine ⟨rfl, by omega, fun hc i i0 i1 hp => ?_, fun hc i i0 i1 hp => ?_⟩
      · rcases (show i = cl ∨ i = cr by omega) with rfl | rfl
        · first
            | exact Int.le_refl _
            | exact Int.le_of_lt (sg_lt.mp h31)
        · first
            | exact Int.le_refl _
            | exact sg_ge.mp h31
            | omega
      · omega

def hsnk (S0 S : Nat → Int → Int) (x : Int) (n : Nat) : Prop := eqx [16] S0 S ∧ hp (S 16) n ∧ (∀ v, ct (S 16) v n = ct (up_ (S0 16) 0 x) v n) ∧ ∀ i : Int, 0 ≤ i → i < n → r62 (S 16 i)
def hsnkI (S0 S : Nat → Int → Int) (x q : Int) (n : Nat) : Prop := eqx [16] S0 S ∧ hd (S 16) x q n ∧ (∀ v, ct (up_ (S 16) q x) v n = ct (up_ (S0 16) 0 x) v n) ∧ (∀ i : Int, 0 ≤ i → i < n → r62 (S 16 i)) ∧ (q = 0 ∨ q < n)
theorem hsnk_fin {S0 S : Nat → Int → Int} {x q : Int} {n : Nat} (h : hsnkI S0 S x q n) (hx : r62 x) (hc : (n : Int) ≤ q ∨ ∃ c, lc (S 16) q c n ∧ ((n : Int) ≤ c ∨ x ≤ S 16 c)) : hsnk S0 (us S 16 q x) x n := by
  obtain ⟨h1, h2, h3, h4, h5⟩ := h
  have q0 := h2.1
  refine ⟨eqx_us h1 (by simp), ?_, fun v => ?_, fun i i0 i1 => ?_⟩
  · rw [us_s]
    rcases hc with hc | ⟨c, hl, hc⟩
    · intro i i0 i1; omega
    · exact hd_end h2 hl hc
  · rw [us_s]; exact h3 v
  · rw [us_s]
    by_cases e : i = q
    · rw [e, up_s]; exact hx
    · rw [up_n e]; exact h4 i i0 i1
theorem hsnk_step {S0 S : Nat → Int → Int} {x q c : Int} {n : Nat} (h : hsnkI S0 S x q n) (hq : q < n) (hl : lc (S 16) q c n) (hcn : c < n) (hc : S 16 c < x) : hsnkI S0 (us S 16 q (S 16 c)) x c n := by
  obtain ⟨h1, h2, h3, h4, h5⟩ := h
  have q0 := h2.1
  have hcq := hl.1
  refine ⟨eqx_us h1 (by simp), ?_, fun v => ?_, fun i i0 i1 => ?_, Or.inr hcn⟩
  · rw [us_s]; exact hd_step h2 hl hcn hc
  · rw [us_s, hl_move (by omega) (by omega) (by omega) (by omega) (by omega)]; exact h3 v
  · rw [us_s]
    by_cases e : i = q
    · rw [e, up_s]; exact h4 _ (by omega) (by omega)
    · rw [up_n e]; exact h4 i i0 i1

set_option maxRecDepth 100000 in
set_option maxHeartbeats 4000000 in
theorem lo_H_sink {l : Launch} {D : va_G} {a : Nat → Nat} {ki kz kl kq : ClassId} {p : Program} {e : Env} {s : State} {m : MethodId} {args : Array Value} {below : List Frame} {meth : Method} {c : Code} {S0 : Nat → Int → Int} {x : Int} {n : Nat} (hx : r62 x) (hn : n ≤ 1458) (C : CX p s m args c b_H_sinkFromTop 5 "NextPaths$PathHeap" TT D cls (tyz ki kz kl kq)) (hr : meth.sig.returnType = none) (hk : meth.locks = false) : ∀ (k : Nat) (q : Int) (S : Nat → Int → Int), n ≤ q.toNat + k → S 17 0 = n → hsnkI S0 S x q n → GG p l e rm_H_sinkFromTop s m args below meth c D cls (adr (wX a ki kz kl kq S0)) 5 0 0 (MQ below (QcW D cls (wX a ki kz kl kq) S0 (pV fun S' => hsnk S0 S' x n)) args s 0 0 (adr (wX a ki kz kl kq S0))) (wX a ki kz kl kq) S [(3, .int (iI q)), (0, .ref (a 17)), (1, .long (lI x))] 2 [] := by
  intro k
  induction k with
  | zero =>
    intro q S hk0 hs hI
    have hq := hI.2.1.1
    have hq1 := hI.2.2.2.2
    refine g_iload_n C d_H_sinkFromTop_2 rfl rfl ?_
    refine g_aload_n C d_H_sinkFromTop_3 rfl rfl ?_
    refine g_get C 17 1 i_H wX_17 rfl (by decide) k_H_15 rfl rfl d_H_sinkFromTop_4 rfl ?_
    refine g_icmp_ge (tgt := 60) C d_H_sinkFromTop_7 (by decide) rfl (by omega) (by omega) (fun h7 => ?_) (fun h7 => ?_)
    · refine g_aload_n C d_H_sinkFromTop_60 rfl rfl ?_
      refine g_get C 17 0 i_H wX_17 rfl (by decide) k_H_9 rfl rfl d_H_sinkFromTop_61 rfl ?_
      refine g_iload_n C d_H_sinkFromTop_64 rfl rfl ?_
      refine g_lload_n C d_H_sinkFromTop_65 rfl rfl ?_
      refine g_last C 18 2 wX_18 rfl (by omega) (by omega) (by decide) wX_s18 d_H_sinkFromTop_66 rfl ?_
      refine g_vret C hr hk d_H_sinkFromTop_67 ⟨rfl, ?_⟩
      refine hsnk_fin hI hx ?_
      first
        | (left; omega)
        | (right; exact ⟨_, hp, Or.inl (by omega)⟩)
        | (right; subst e_x4_15; exact ⟨_, hp, Or.inr (sg_ge.mp h35)⟩)
    · exact absurd h7 (by omega)
  | succ k ih =>
    intro q S hk0 hs hI
    have hq := hI.2.1.1
    have hq1 := hI.2.2.2.2
    refine g_iload_n C d_H_sinkFromTop_2 rfl rfl ?_
    refine g_aload_n C d_H_sinkFromTop_3 rfl rfl ?_
    refine g_get C 17 1 i_H wX_17 rfl (by decide) k_H_15 rfl rfl d_H_sinkFromTop_4 rfl ?_
    refine g_icmp_ge (tgt := 60) C d_H_sinkFromTop_7 (by decide) rfl (by omega) (by omega) (fun h7 => ?_) (fun h7 => ?_)
    · refine g_aload_n C d_H_sinkFromTop_60 rfl rfl ?_
      refine g_get C 17 0 i_H wX_17 rfl (by decide) k_H_9 rfl rfl d_H_sinkFromTop_61 rfl ?_
      refine g_iload_n C d_H_sinkFromTop_64 rfl rfl ?_
      refine g_lload_n C d_H_sinkFromTop_65 rfl rfl ?_
      refine g_last C 18 2 wX_18 rfl (by omega) (by omega) (by decide) wX_s18 d_H_sinkFromTop_66 rfl ?_
      refine g_vret C hr hk d_H_sinkFromTop_67 ⟨rfl, ?_⟩
      refine hsnk_fin hI hx ?_
      first
        | (left; omega)
        | (right; exact ⟨_, hp, Or.inl (by omega)⟩)
        | (right; subst e_x4_15; exact ⟨_, hp, Or.inr (sg_ge.mp h35)⟩)
    · refine g_aload_n C d_H_sinkFromTop_10 rfl rfl ?_
      refine g_iload_n C d_H_sinkFromTop_11 rfl rfl ?_
      refine g_runI (wX_fix a ki kz kl kq) rfl (rn_V C (m_H_lesserChild (n := n) hs (by omega) (by omega) hI.2.2.2.1) 17 1 wX_17 rfl rfl kc_H_lesserChild k_H_25 ki_H_lesserChild kx_H_lesserChild kn_H hy_H_lesserChild ⟨rfl, rfl⟩ ⟨by decide, by decide⟩ ⟨Nat.le_refl _, Nat.le_refl _⟩ rfl rfl (Nat.le_of_ble_eq_true rfl) d_H_sinkFromTop_12) (fun r S' hp => ?_)
      obtain ⟨rfl, hp⟩ := hp
      have hpc := hp.1
      refine g_nm (fun x4_15 e_x4_15 => ?_)
      refine g_istore (lv' := [(4, .int (iI x4_15)), (3, .int (iI q)), (0, .ref (a 17)), (1, .long (lI x))]) C d_H_sinkFromTop_15 (by decide) rfl rfl ?_
      refine g_iload C d_H_sinkFromTop_17 rfl rfl ?_
      refine g_aload_n C d_H_sinkFromTop_19 rfl rfl ?_
      refine g_get C 17 1 i_H wX_17 rfl (by decide) k_H_15 rfl rfl d_H_sinkFromTop_20 rfl ?_
      refine g_icmp_ge (tgt := 60) C d_H_sinkFromTop_23 (by decide) rfl (by omega) (by omega) (fun h23 => ?_) (fun h23 => ?_)
      · refine g_aload_n C d_H_sinkFromTop_60 rfl rfl ?_
        refine g_get C 17 0 i_H wX_17 rfl (by decide) k_H_9 rfl rfl d_H_sinkFromTop_61 rfl ?_
        refine g_iload_n C d_H_sinkFromTop_64 rfl rfl ?_
        refine g_lload_n C d_H_sinkFromTop_65 rfl rfl ?_
        refine g_last C 18 2 wX_18 rfl (by omega) (by omega) (by decide) wX_s18 d_H_sinkFromTop_66 rfl ?_
        refine g_vret C hr hk d_H_sinkFromTop_67 ⟨rfl, ?_⟩
        refine hsnk_fin hI hx ?_
        first
          | (left; omega)
          | (right; exact ⟨_, hp, Or.inl (by omega)⟩)
          | (right; subst e_x4_15; exact ⟨_, hp, Or.inr (sg_ge.mp h35)⟩)
      · refine g_aload_n C d_H_sinkFromTop_26 rfl rfl ?_
        refine g_get C 17 0 i_H wX_17 rfl (by decide) k_H_9 rfl rfl d_H_sinkFromTop_27 rfl ?_
        refine g_iload C d_H_sinkFromTop_30 rfl rfl ?_
        refine g_lald C 18 2 wX_18 rfl (by omega) (by omega) (by decide) d_H_sinkFromTop_32 rfl ?_
        refine g_lload_n C d_H_sinkFromTop_33 rfl rfl ?_
        refine g_lcmp C d_H_sinkFromTop_34 (by have := hI.2.2.2.1 x4_15 (by omega) (by omega); omega) (by omega) rfl ?_
        refine g_if_lt (tgt := 41) C d_H_sinkFromTop_35 (by decide) rfl (sg_r _ _) (fun h35 => ?_) (fun h35 => ?_)
        · refine g_aload_n C d_H_sinkFromTop_41 rfl rfl ?_
          refine g_get C 17 0 i_H wX_17 rfl (by decide) k_H_9 rfl rfl d_H_sinkFromTop_42 rfl ?_
          refine g_iload_n C d_H_sinkFromTop_45 rfl rfl ?_
          refine g_aload_n C d_H_sinkFromTop_46 rfl rfl ?_
          refine g_get C 17 0 i_H wX_17 rfl (by decide) k_H_9 rfl rfl d_H_sinkFromTop_47 rfl ?_
          refine g_iload C d_H_sinkFromTop_50 rfl rfl ?_
          refine g_lald C 18 2 wX_18 rfl (by omega) (by omega) (by decide) d_H_sinkFromTop_52 rfl ?_
          refine g_last C 18 2 wX_18 rfl (by omega) (by omega) (by decide) wX_s18 d_H_sinkFromTop_53 rfl ?_
          refine g_iload C d_H_sinkFromTop_54 rfl rfl ?_
          refine g_nm (fun q2 e_q2 => ?_)
          refine g_istore_n (lv' := [(3, .int (iI q2)), (4, .int (iI x4_15)), (0, .ref (a 17)), (1, .long (lI x))]) C d_H_sinkFromTop_56 (by decide) rfl rfl ?_
          refine g_goto (tgt := 2) C d_H_sinkFromTop_57 (by decide) ?_
          refine GG.lvs (lv' := [(3, .int (iI q2)), (0, .ref (a 17)), (1, .long (lI x))]) (by simp [lk]) ?_
          subst e_q2
          subst e_x4_15
          exact ih _ _ (by omega) (by rw [us_n (by decide)]; exact hs) (hsnk_step hI (by omega) hp (by omega) (sg_lt.mp h35))
        · refine g_goto (tgt := 60) C d_H_sinkFromTop_38 (by decide) ?_
          refine g_aload_n C d_H_sinkFromTop_60 rfl rfl ?_
          refine g_get C 17 0 i_H wX_17 rfl (by decide) k_H_9 rfl rfl d_H_sinkFromTop_61 rfl ?_
          refine g_iload_n C d_H_sinkFromTop_64 rfl rfl ?_
          refine g_lload_n C d_H_sinkFromTop_65 rfl rfl ?_
          refine g_last C 18 2 wX_18 rfl (by omega) (by omega) (by decide) wX_s18 d_H_sinkFromTop_66 rfl ?_
          refine g_vret C hr hk d_H_sinkFromTop_67 ⟨rfl, ?_⟩
          refine hsnk_fin hI hx ?_
          first
            | (left; omega)
            | (right; exact ⟨_, hp, Or.inl (by omega)⟩)
            | (right; subst e_x4_15; exact ⟨_, hp, Or.inr (sg_ge.mp h35)⟩)

set_option maxRecDepth 100000 in
set_option maxHeartbeats 4000000 in
theorem m_H_sinkFromTop {l : Launch} {D : va_G} {a : Nat → Nat} {ki kz kl kq : ClassId} {S : Nat → Int → Int} {x : Int} {n : Nat} (hx : r62 x) (hs : S 17 0 = n) (hn : n ≤ 1458) (hh : hp (S 16) (n + 1)) (hb : ∀ i : Int, 0 ≤ i → i < n → r62 (S 16 i)) : MX l D a ki kz kl kq y_H_sinkFromTop b_H_sinkFromTop 5 none rm_H_sinkFromTop [.ref (a 17), .long (lI x)] S (pV fun S' => hsnk S S' x n) := by
  refine MM.go b_H_sinkFromTop 5 none "NextPaths$PathHeap" [(0, .ref (a 17)), (1, .long (lI x))] (by decide) rfl rfl (Nat.le_of_ble_eq_true rfl) ?_
  intro p e s m args below meth c C hr hk
  refine g_iconst (z := 0) C d_H_sinkFromTop_0 rfl rfl ?_
  refine g_nm (fun q e_q => ?_)
  refine g_istore_n (lv' := [(3, .int (iI q)), (0, .ref (a 17)), (1, .long (lI x))]) C d_H_sinkFromTop_1 (by decide) rfl rfl ?_
  subst e_q
  exact lo_H_sink hx hn C hr hk n 0 S (by omega) hs ⟨eqx_rf, hd_0 hh x, fun _ => rfl, hb, Or.inl rfl⟩

/-- the first one is taken out -/
def htak (S0 S : Nat → Int → Int) (n : Nat) : Prop := eqx [16, 17] S0 S ∧ S 17 0 = n ∧ hp (S 16) n ∧ (∀ v, ct (S 16) v n + (if S0 16 0 = v then 1 else 0) = ct (S0 16) v (n + 1)) ∧ ∀ i : Int, 0 ≤ i → i < n → r62 (S 16 i)
theorem htak_of {S0 S : Nat → Int → Int} {n : Nat} (h : hsnk (us S0 17 0 n) S (S0 16 n) n) : htak S0 S n := by
  obtain ⟨h1, h2, h3, h4⟩ := h
  refine ⟨fun k hk => ?_, ?_, h2, fun v => ?_, h4⟩
  · simp only [List.mem_cons, List.not_mem_nil, or_false, not_or] at hk
    rw [h1 k (by simp [hk.1]), us_n hk.2]
  · rw [h1 17 (by decide), us_s, up_s]
  · rw [h3 v, us_n (by decide), ct_s]
    by_cases e : n = 0
    · subst e
      simp [ct_0]
    · rw [ct_up v (by omega) n (by omega)]
      omega

set_option maxRecDepth 100000 in
set_option maxHeartbeats 4000000 in
theorem m_H_takeFirst {l : Launch} {D : va_G} {a : Nat → Nat} {ki kz kl kq : ClassId} {S : Nat → Int → Int} {n : Nat} (hs : S 17 0 = n + 1) (hn : n < 1458) (hh : hp (S 16) (n + 1)) (hb : ∀ i : Int, 0 ≤ i → i < n + 1 → r62 (S 16 i)) : MX l D a ki kz kl kq y_H_takeFirst b_H_takeFirst 3 (some .long) rm_H_takeFirst [.ref (a 17)] S (pL fun r S' => r = S 16 0 ∧ htak S S' n) := by
  refine MM.go b_H_takeFirst 3 (some .long) "NextPaths$PathHeap" [(0, .ref (a 17))] (by decide) rfl rfl (Nat.le_of_ble_eq_true rfl) ?_
  intro p e s m args below meth c C hr hk
  refine g_aload_n C d_H_takeFirst_0 rfl rfl ?_
  refine g_get C 17 1 i_H wX_17 rfl (by decide) k_H_15 rfl rfl d_H_takeFirst_1 rfl ?_
  refine g_if_gt (tgt := 11) C d_H_takeFirst_4 (by decide) rfl (by omega) (fun h4 => ?_) (fun h4 => ?_)
  · refine g_aload_n C d_H_takeFirst_11 rfl rfl ?_
    refine g_get C 17 0 i_H wX_17 rfl (by decide) k_H_9 rfl rfl d_H_takeFirst_12 rfl ?_
    refine g_iconst (z := 0) C d_H_takeFirst_15 rfl rfl ?_
    refine g_lald C 18 2 wX_18 rfl (by omega) (by omega) (by decide) d_H_takeFirst_16 rfl ?_
    refine g_nml (fun f e_f => ?_)
    refine g_lstore_n (lv' := [(1, .long (lI f)), (0, .ref (a 17))]) C d_H_takeFirst_17 (by decide) rfl rfl ?_
    refine g_aload_n C d_H_takeFirst_18 rfl rfl ?_
    refine g_dup C d_H_takeFirst_19 rfl rfl ?_
    refine g_get C 17 1 i_H wX_17 rfl (by decide) k_H_15 rfl rfl d_H_takeFirst_20 rfl ?_
    refine g_iconst (z := 1) C d_H_takeFirst_23 rfl rfl ?_
    refine g_isub (z := (n : Int)) C d_H_takeFirst_24 (by omega) rfl ?_
    refine g_put (ty := .int) C 17 1 ty_H i_H ty_H_ok n_H wX_17 rfl (by decide) k_H_15 rfl rfl (by decide +kernel) rfl rfl (Nat.le_of_ble_eq_true rfl) wX_p17_1 d_H_takeFirst_25 rfl ?_
    refine g_aload_n C d_H_takeFirst_28 rfl rfl ?_
    refine g_aload_n C d_H_takeFirst_29 rfl rfl ?_
    refine g_get C 17 0 i_H wX_17 rfl (by decide) k_H_9 rfl rfl d_H_takeFirst_30 rfl ?_
    refine g_aload_n C d_H_takeFirst_33 rfl rfl ?_
    refine g_get C 17 1 i_H wX_17 rfl (by decide) k_H_15 rfl rfl d_H_takeFirst_34 rfl ?_
    refine g_v (z' := (n : Int)) rfl ?_
    refine g_lald C 18 2 wX_18 rfl (by omega) (by omega) (by decide) d_H_takeFirst_37 rfl ?_
    refine g_vl (z' := S 16 n) rfl ?_
    refine g_runV (wX_fix a ki kz kl kq) rfl (rn_V C (m_H_sinkFromTop (n := n) (hb n (by omega) (by omega)) (by rw [us_s, up_s]) (by omega) (by rw [us_n (by decide)]; exact hh) (by rw [us_n (by decide)]; exact fun i i0 i1 => hb i i0 (by omega))) 17 1 wX_17 rfl rfl kc_H_sinkFromTop k_H_21 ki_H_sinkFromTop kx_H_sinkFromTop kn_H hy_H_sinkFromTop ⟨rfl, rfl⟩ ⟨by decide, by decide⟩ ⟨Nat.le_refl _, Nat.le_refl _⟩ rfl rfl (Nat.le_of_ble_eq_true rfl) d_H_takeFirst_38) (fun S' hp => ?_)
    refine g_lload_n C d_H_takeFirst_41 rfl rfl ?_
    refine g_lret C hr hk d_H_takeFirst_42 ⟨_, rfl, ?_⟩
    exact ⟨e_f, htak_of hp⟩
  · exact absurd h4 (by omega)
end
section
/-! the class: the code of a path -/
theorem pw32 : ∀ m : Nat, m < 8 → (2 : Int) ^ (5 * m) = 32 ^ m := by decide +kernel
theorem take_s {P : List Int} {i : Nat} (h : i < P.length) : P.take (i + 1) = P.take i ++ [P.getD i 0] := by
  rw [List.take_add_one]
  simp [h]
/-- the arcs of the first i, each at its place -/
def acc (P : List Int) (i : Nat) : Int := rw_ (P.take i) * 32 ^ (7 - i)
theorem acc_0 (P : List Int) : acc P 0 = 0 := by simp [acc, rw_]
theorem acc_s {P : List Int} {i : Nat} (h : i < P.length) (h7 : i < 7) : acc P (i + 1) = acc P i + P.getD i 0 * 32 ^ (6 - i) := by
  unfold acc
  rw [take_s h, rw_app, show 7 - (i + 1) = 6 - i by omega, show 7 - i = (6 - i) + 1 by omega, Int.pow_succ, Int.add_mul]
  congr 1
  rw [Int.mul_assoc, Int.mul_comm 32]
theorem acc_bd {P : List Int} (h : ok5 P) {i : Nat} (hi : i ≤ P.length) : 0 ≤ rw_ (P.take i) ∧ acc P i < 34359738368 := by
  have hl : (P.take i).length = i := by rw [List.length_take]; omega
  have h5 : ok5 (P.take i) := ⟨by have := h.1; omega, fun k hk => h.2 k (List.mem_of_mem_take hk)⟩
  have hb := rw_bd h5
  rw [hl] at hb
  refine ⟨?_, hb.2⟩
  refine Classical.byContradiction (fun q => ?_)
  have : rw_ (P.take i) * 32 ^ (7 - i) < 0 := Int.mul_neg_of_neg_of_pos (by omega) (Int.pow_pos (by omega))
  omega
theorem acc_or {P : List Int} (h : ok5 P) {i : Nat} (hi : i < P.length) : lI (acc P i) ||| lI (P.getD i 0 * 2 ^ (5 * (6 - (i : Int))).toNat) = lI (acc P (i + 1)) := by
  have h7 : i < 7 := by have := h.1; omega
  have hk : 0 ≤ P.getD i 0 ∧ P.getD i 0 < 32 := by
    have := h.2 (P.getD i 0) (by simp [hi])
    exact this
  have e1 : (5 * (6 - (i : Int))).toNat = 5 * (6 - i) := by omega
  have b1 := acc_bd h (i := i) (by omega)
  have b2 := acc_bd h (i := i + 1) (by omega)
  rw [e1, pw32 _ (by omega), acc_s hi h7]
  have e2 : acc P i = rw_ (P.take i) * ((2 ^ (5 * (7 - i)) : Nat) : Int) := by
    unfold acc
    rw [Int.natCast_pow, ← pw32 _ (by omega)]
    rfl
  have e3 : P.getD i 0 * 32 ^ (6 - i) < ((2 ^ (5 * (7 - i)) : Nat) : Int) := by
    rw [Int.natCast_pow]
    show _ < (2 : Int) ^ (5 * (7 - i))
    rw [pw32 _ (by omega), show 7 - i = (6 - i) + 1 by omega, Int.pow_succ, Int.mul_comm]
    exact Int.mul_lt_mul_of_pos_left hk.2 (Int.pow_pos (by omega))
  have e4 : 0 ≤ P.getD i 0 * 32 ^ (6 - i) := Int.mul_nonneg hk.1 (Int.le_of_lt (Int.pow_pos (by omega)))
  have e5 := b2.2
  rw [acc_s hi h7] at e5
  rw [e2] at e5 ⊢
  exact lor_ok _ (by omega) b1.1 e4 e3 (by omega)
theorem cd_acc {W : Int → Int} {P : List Int} : cd W P = (wp W P * 8 + P.length) * 34359738368 + acc P P.length := by
  unfold cd acc
  rw [List.take_length]
  omega

set_option maxRecDepth 100000 in
set_option maxHeartbeats 4000000 in
theorem lo_P_code {l : Launch} {D : va_G} {a : Nat → Nat} {ki kz kl kq : ClassId} {p : Program} {e : Env} {s : State} {m : MethodId} {args : Array Value} {below : List Frame} {meth : Method} {c : Code} {S : Nat → Int → Int} {P : List Int} (hP : ok5 P) (hc : ∀ i : Nat, i < P.length → S 19 (i : Int) = P.getD i 0) (hr5 : ∀ k, k ∈ P → k < 20) (hW : ∀ k, 0 ≤ S 4 k ∧ S 4 k ≤ 1000) (C : CX p s m args c b_P_code 6 "NextPaths$PathFinder" TT D cls (tyz ki kz kl kq)) (hr : meth.sig.returnType = (some .long)) (hk : meth.locks = false) : ∀ (k i : Nat), i ≤ P.length → P.length ≤ i + k → GG p l e rm_P_code s m args below meth c D cls (adr (wX a ki kz kl kq S)) 6 0 0 (MQ below (QcW D cls (wX a ki kz kl kq) S (pL fun r S' => S' = S ∧ r = cd (S 4) P)) args s 0 0 (adr (wX a ki kz kl kq S))) (wX a ki kz kl kq) S [(5, .int (iI (i : Int))), (3, .long (lI (acc P i))), (2, .int (iI (wp (S 4) (P.take i)))), (0, .ref (a 19)), (1, .int (iI (P.length : Int)))] 7 [] := by
  intro k
  induction k with
  | zero =>
    intro i hi hk0
    have h7 := hP.1
    refine g_iload C d_P_code_7 rfl rfl ?_
    refine g_iload_n C d_P_code_9 rfl rfl ?_
    refine g_icmp_ge (tgt := 52) C d_P_code_10 (by decide) rfl (by omega) (by omega) (fun h10 => ?_) (fun h10 => ?_)
    · have hi : i = P.length := by omega
      subst hi
      have hwb := wp_bd hW P
      have h7 := hP.1
      have hab := acc_bd hP (Nat.le_refl _)
      rw [List.take_length]
      have code_end : lI (wp (S 4) P * 274877906944 + (P.length : Int) * 34359738368) ||| lI (acc P P.length) = lI (cd (S 4) P) := by
        have e0 : wp (S 4) P * 274877906944 + (P.length : Int) * 34359738368 = (wp (S 4) P * 8 + P.length) * ((2 ^ 35 : Nat) : Int) := by omega
        have h0 : 0 ≤ acc P P.length := Int.mul_nonneg hab.1 (Int.le_of_lt (Int.pow_pos (by omega)))
        rw [e0, cd_acc]
        exact lor_ok 35 (by decide) (by omega) h0 (by omega) (by omega)
      refine g_iload_n C d_P_code_52 rfl rfl ?_
      refine g_iload_n C d_P_code_53 rfl rfl ?_
      refine g_runL (wX_fix a ki kz kl kq) rfl (rn_SN C (m_C_head (by omega) (by omega)) 2 kc_C_head k_P_72 ks_C_head kn_C hy_C_head ⟨rfl, rfl⟩ ⟨by decide, by decide⟩ ⟨Nat.le_refl _, Nat.le_refl _⟩ rfl rfl (Nat.le_of_ble_eq_true rfl) d_P_code_54) (fun r S' hp => ?_)
      obtain ⟨hS1, rfl⟩ := hp
      refine GG.at hS1 ?_
      refine g_lload_n C d_P_code_57 rfl rfl ?_
      refine g_lor (z := (cd (S 4) P)) C d_P_code_58 code_end rfl ?_
      refine g_lret C hr hk d_P_code_59 ⟨_, rfl, ?_⟩
      exact ⟨rfl, rfl⟩
    · exact absurd h10 (by omega)
  | succ k ih =>
    intro i hi hk0
    have h7 := hP.1
    refine g_iload C d_P_code_7 rfl rfl ?_
    refine g_iload_n C d_P_code_9 rfl rfl ?_
    refine g_icmp_ge (tgt := 52) C d_P_code_10 (by decide) rfl (by omega) (by omega) (fun h10 => ?_) (fun h10 => ?_)
    · have hi : i = P.length := by omega
      subst hi
      have hwb := wp_bd hW P
      have h7 := hP.1
      have hab := acc_bd hP (Nat.le_refl _)
      rw [List.take_length]
      have code_end : lI (wp (S 4) P * 274877906944 + (P.length : Int) * 34359738368) ||| lI (acc P P.length) = lI (cd (S 4) P) := by
        have e0 : wp (S 4) P * 274877906944 + (P.length : Int) * 34359738368 = (wp (S 4) P * 8 + P.length) * ((2 ^ 35 : Nat) : Int) := by omega
        have h0 : 0 ≤ acc P P.length := Int.mul_nonneg hab.1 (Int.le_of_lt (Int.pow_pos (by omega)))
        rw [e0, cd_acc]
        exact lor_ok 35 (by decide) (by omega) h0 (by omega) (by omega)
      refine g_iload_n C d_P_code_52 rfl rfl ?_
      refine g_iload_n C d_P_code_53 rfl rfl ?_
      refine g_runL (wX_fix a ki kz kl kq) rfl (rn_SN C (m_C_head (by omega) (by omega)) 2 kc_C_head k_P_72 ks_C_head kn_C hy_C_head ⟨rfl, rfl⟩ ⟨by decide, by decide⟩ ⟨Nat.le_refl _, Nat.le_refl _⟩ rfl rfl (Nat.le_of_ble_eq_true rfl) d_P_code_54) (fun r S' hp => ?_)
      obtain ⟨hS1, rfl⟩ := hp
      refine GG.at hS1 ?_
      refine g_lload_n C d_P_code_57 rfl rfl ?_
      refine g_lor (z := (cd (S 4) P)) C d_P_code_58 code_end rfl ?_
      refine g_lret C hr hk d_P_code_59 ⟨_, rfl, ?_⟩
      exact ⟨rfl, rfl⟩
    · have hlt : i < P.length := by omega
      have hk32 := hP.2 (P.getD i 0) (by simp [hlt])
      have hk20 := hr5 (P.getD i 0) (by simp [hlt])
      refine g_iload_n C d_P_code_13 rfl rfl ?_
      refine g_aload_n C d_P_code_14 rfl rfl ?_
      refine g_get C 19 0 i_P wX_19 rfl (by decide) k_P_19 rfl rfl d_P_code_15 rfl ?_
      refine g_getN C 1 4 i_G wX_1 rfl (by decide) k_P_63 rfl rfl d_P_code_18 rfl ?_
      refine g_aload_n C d_P_code_21 rfl rfl ?_
      refine g_get C 19 3 i_P wX_19 rfl (by decide) k_P_15 rfl rfl d_P_code_22 rfl ?_
      refine g_iload C d_P_code_25 rfl rfl ?_
      refine g_iald C 21 0 wX_21 rfl (by omega) (by omega) (by decide) d_P_code_27 rfl ?_
      refine g_v (z' := P.getD i 0) (hc i hlt) ?_
      refine g_iald C 4 0 wX_4 rfl (by omega) (by omega) (by decide) d_P_code_28 rfl ?_
      refine g_iadd C d_P_code_29 rfl rfl ?_
      refine g_nm (fun w2 e_w2 => ?_)
      refine g_istore_n (lv' := [(2, .int (iI w2)), (5, .int (iI (i : Int))), (3, .long (lI (acc P i))), (0, .ref (a 19)), (1, .int (iI (P.length : Int)))]) C d_P_code_30 (by decide) rfl rfl ?_
      refine g_lload_n C d_P_code_31 rfl rfl ?_
      refine g_aload_n C d_P_code_32 rfl rfl ?_
      refine g_get C 19 3 i_P wX_19 rfl (by decide) k_P_15 rfl rfl d_P_code_33 rfl ?_
      refine g_iload C d_P_code_36 rfl rfl ?_
      refine g_iald C 21 0 wX_21 rfl (by omega) (by omega) (by decide) d_P_code_38 rfl ?_
      refine g_v (z' := P.getD i 0) (hc i hlt) ?_
      refine g_iload C d_P_code_39 rfl rfl ?_
      refine g_runL (wX_fix a ki kz kl kq) rfl (rn_SN C (m_C_arcAt (by omega) (by omega)) 2 kc_C_arcAt k_P_66 ks_C_arcAt kn_C hy_C_arcAt ⟨rfl, rfl⟩ ⟨by decide, by decide⟩ ⟨Nat.le_refl _, Nat.le_refl _⟩ rfl rfl (Nat.le_of_ble_eq_true rfl) d_P_code_41) (fun r S' hp => ?_)
      obtain ⟨hS1, rfl⟩ := hp
      refine GG.at hS1 ?_
      refine g_lor (z := (acc P (i + 1))) C d_P_code_44 (acc_or hP hlt) rfl ?_
      refine g_nml (fun ac2 e_ac2 => ?_)
      refine g_lstore_n (lv' := [(3, .long (lI ac2)), (2, .int (iI w2)), (5, .int (iI (i : Int))), (0, .ref (a 19)), (1, .int (iI (P.length : Int)))]) C d_P_code_45 (by decide) rfl rfl ?_
      obtain ⟨i2, e_i2⟩ : ∃ z : Int, z = (i : Int) + 1 := ⟨_, rfl⟩
      refine g_iinc (q := 2) (z := i2) (lv' := [(5, .int (iI i2)), (3, .long (lI ac2)), (2, .int (iI w2)), (0, .ref (a 19)), (1, .int (iI (P.length : Int)))]) C d_P_code_46 rfl e_i2.symm (by decide) rfl rfl ?_
      refine g_goto (tgt := 7) C d_P_code_49 (by decide) ?_
      refine GG.lvs (lv' := [(5, .int (iI ((i + 1 : Nat) : Int))), (3, .long (lI (acc P (i + 1)))), (2, .int (iI (wp (S 4) (P.take (i + 1))))), (0, .ref (a 19)), (1, .int (iI (P.length : Int)))]) ?_ (ih (i + 1) (by omega) (by omega))
      have q1 : i2 = ((i + 1 : Nat) : Int) := by omega
      have q2 : w2 = wp (S 4) (P.take (i + 1)) := by rw [e_w2, take_s hlt, wp_app]; simp [wp]
      subst q1; subst q2; subst e_ac2
      simp [lk]

set_option maxRecDepth 100000 in
set_option maxHeartbeats 4000000 in
theorem m_P_code {l : Launch} {D : va_G} {a : Nat → Nat} {ki kz kl kq : ClassId} {S : Nat → Int → Int} {P : List Int} (hP : ok5 P) (hc : ∀ i : Nat, i < P.length → S 19 (i : Int) = P.getD i 0) (hr5 : ∀ k, k ∈ P → k < 20) (hW : ∀ k, 0 ≤ S 4 k ∧ S 4 k ≤ 1000) : MX l D a ki kz kl kq y_P_code b_P_code 6 (some .long) rm_P_code [.ref (a 19), .int (iI (P.length : Int))] S (pL fun r S' => S' = S ∧ r = cd (S 4) P) := by
  refine MM.go b_P_code 6 (some .long) "NextPaths$PathFinder" [(0, .ref (a 19)), (1, .int (iI (P.length : Int)))] (by decide) rfl rfl (Nat.le_of_ble_eq_true rfl) ?_
  intro p e s m args below meth c C hr hk
  refine g_iconst (z := 0) C d_P_code_0 rfl rfl ?_
  refine g_nm (fun w0 e_w0 => ?_)
  refine g_istore_n (lv' := [(2, .int (iI w0)), (0, .ref (a 19)), (1, .int (iI (P.length : Int)))]) C d_P_code_1 (by decide) rfl rfl ?_
  refine g_lconst (z := 0) C d_P_code_2 rfl rfl ?_
  refine g_nml (fun a0 e_a0 => ?_)
  refine g_lstore_n (lv' := [(3, .long (lI a0)), (2, .int (iI w0)), (0, .ref (a 19)), (1, .int (iI (P.length : Int)))]) C d_P_code_3 (by decide) rfl rfl ?_
  refine g_iconst (z := 0) C d_P_code_4 rfl rfl ?_
  refine g_nm (fun i0 e_i0 => ?_)
  refine g_istore (lv' := [(5, .int (iI i0)), (3, .long (lI a0)), (2, .int (iI w0)), (0, .ref (a 19)), (1, .int (iI (P.length : Int)))]) C d_P_code_5 (by decide) rfl rfl ?_
  refine GG.lvs (lv' := [(5, .int (iI ((0 : Nat) : Int))), (3, .long (lI (acc P 0))), (2, .int (iI (wp (S 4) (P.take 0)))), (0, .ref (a 19)), (1, .int (iI (P.length : Int)))]) ?_ (lo_P_code hP hc hr5 hW C hr hk P.length 0 (by omega) (by omega))
  subst e_w0; subst e_a0; subst e_i0
  rw [acc_0]
  simp [lk, wp]
end
section
/-! the class: the search for paths -/
def lo_ (n : Nat) (F : Int → Int) (v : Int) : List Int := (dk n).filter (fun k => decide (F k = v))
theorem lo_mem {n : Nat} {F : Int → Int} {v k : Int} : k ∈ lo_ n F v ↔ (0 ≤ k ∧ k < n) ∧ F k = v := by
  simp only [lo_, List.mem_filter, dk_mem, decide_eq_true_eq]
theorem lo_len {n : Nat} {F : Int → Int} {v : Int} : (lo_ n F v).length ≤ n := by
  have := List.length_filter_le (fun k => decide (F k = v)) (dk n)
  rw [dk_len] at this
  exact this
theorem lo_flat {F T Sh : Int → Int} {u : Int} {seen : List Int} {rest : Int → List (List Int)} (n : Nat) : (dk n).flatMap (db F T Sh u seen rest) = (lo_ n F u).flatMap (db F T Sh u seen rest) := by
  unfold lo_
  induction dk n with
  | nil => rfl
  | cons k l ih =>
    by_cases c : F k = u
    · rw [List.filter_cons_of_pos (by simp [c]), List.flatMap_cons, List.flatMap_cons, ih]
    · rw [List.filter_cons_of_neg (by simp [c]), List.flatMap_cons, ih]
      have : db F T Sh u seen rest k = [] := by unfold db; rw [if_neg (fun q => c q.1)]
      rw [this, List.nil_append]
def LVs (S : Nat → Int → Int) : Prop := ∀ v : Int, 0 ≤ v → v < 8 → S 7 v = (lo_ (S 1 0).toNat (S 2) v).length ∧ ∀ i : Nat, i < (lo_ (S 1 0).toNat (S 2) v).length → S (8 + v.toNat) (i : Int) = (lo_ (S 1 0).toNat (S 2) v).getD i 0
/-- what the graph's numbers are, always -/
def GIs (S : Nat → Int → Int) : Prop := (0 ≤ S 0 0 ∧ S 0 0 ≤ 8) ∧ (0 ≤ S 1 0 ∧ S 1 0 ≤ 20) ∧ gok (S 1 0).toNat (S 0 0).toNat (S 2) (S 3) (S 4) (S 5) (S 6) ∧ LVs S
theorem GIs_eq {S S' : Nat → Int → Int} (h : ∀ k, k < 16 → S' k = S k) (g : GIs S) : GIs S' := by
  unfold GIs LVs at *
  rw [h 0 (by decide), h 1 (by decide), h 2 (by decide), h 3 (by decide), h 4 (by decide), h 5 (by decide), h 6 (by decide), h 7 (by decide)]
  refine ⟨g.1, g.2.1, g.2.2.1, fun v v0 v1 => ?_⟩
  rw [h (8 + v.toNat) (by omega)]
  exact g.2.2.2 v v0 v1
abbrev dfS (S : Nat → Int → Int) (b : Int) (d : Nat) (u : Int) (seen : List Int) : List (List Int) := df (S 1 0).toNat (S 2) (S 3) (S 6) b d u seen
abbrev dbS (S : Nat → Int → Int) (b : Int) (d : Nat) (u : Int) (seen : List Int) : Int → List (List Int) := db (S 2) (S 3) (S 6) u seen (fun v => dfS S b d v (u :: seen))
def cds (S : Nat → Int → Int) (px : List Int) (L : List (List Int)) : List Int := L.map (fun P => cd (S 4) (px ++ P))
theorem cds_len {S : Nat → Int → Int} {px : List Int} {L : List (List Int)} : (cds S px L).length = L.length := by simp [cds]
/-- n numbers stand in the heap -/
def HPs (S : Nat → Int → Int) (n : Nat) : Prop := S 17 0 = n ∧ hp (S 16) n ∧ ∀ i : Int, 0 ≤ i → i < n → r62 (S 16 i)
def wkp (S0 S : Nat → Int → Int) (n : Nat) (dp : Int) (L : List Int) : Prop := eqx [16, 17, 18, 19] S0 S ∧ (∀ v : Int, 0 ≤ v → v < 8 → S 18 v = S0 18 v) ∧ (∀ i : Int, 0 ≤ i → i < dp → S 19 i = S0 19 i) ∧ HPs S (n + L.length) ∧ ∀ v, ct (S 16) v (n + L.length) = ct (S0 16) v n + (L.count v : Nat)
def wkq (S : Nat → Int → Int) (b u : Int) (seen px : List Int) (n d : Nat) : Prop := GIs S ∧ S 20 0 = b ∧ (0 ≤ b ∧ b < 8) ∧ (0 ≤ u ∧ u < 8) ∧ u ∉ seen ∧ (∀ v : Int, 0 ≤ v → v < 8 → S 18 v = if v ∈ seen then 1 else 0) ∧ px.length + d = 7 ∧ (∀ i : Nat, i < px.length → S 19 (i : Int) = px.getD i 0) ∧ (∀ k, k ∈ px → 0 ≤ k ∧ k < 20) ∧ HPs S n ∧ n + (dfS S b d u seen).length ≤ 1458
/-- the goal is come to -/
theorem wkp_goal {S S' : Nat → Int → Int} {px : List Int} {n : Nat} (h : hadd S S' (cd (S 4) px) n) : wkp S S' n px.length (cds S px [[]]) := by
  obtain ⟨h1, h2, h3, h4, h5⟩ := h
  refine ⟨eqx_mono h1 (by simp), fun v _ _ => by rw [h1 18 (by decide)], fun i _ _ => by rw [h1 19 (by decide)], ⟨?_, ?_, ?_⟩, fun v => ?_⟩
  · simp [cds]; omega
  · simpa [cds] using h3
  · simpa [cds] using h5
  · have := h4 v
    simp only [cds, List.map_cons, List.map_nil, List.append_nil, List.length_singleton, List.count_cons, List.count_nil, beq_iff_eq]
    rw [this]
    split <;> simp
theorem wkp_none {S : Nat → Int → Int} {n : Nat} {dp : Int} (h : HPs S n) : wkp S S n dp [] := ⟨eqx_rf, fun _ _ _ => rfl, fun _ _ _ => rfl, by simpa using h, fun v => by simp⟩
/-- in the loop over the arcs that leave u, before the arc at place i -/
def wkl (S0 S : Nat → Int → Int) (b u : Int) (seen px : List Int) (n d i : Nat) : Prop := eqx [16, 17, 18, 19] S0 S ∧ (∀ v : Int, 0 ≤ v → v < 8 → S 18 v = if v ∈ u :: seen then 1 else 0) ∧ (∀ i : Int, 0 ≤ i → i < px.length → S 19 i = S0 19 i) ∧
  HPs S (n + (cds S0 px (((lo_ (S0 1 0).toNat (S0 2) u).take i).flatMap (dbS S0 b d u seen))).length) ∧ ∀ v, ct (S 16) v (n + (cds S0 px (((lo_ (S0 1 0).toNat (S0 2) u).take i).flatMap (dbS S0 b d u seen))).length) = ct (S0 16) v n + ((cds S0 px (((lo_ (S0 1 0).toNat (S0 2) u).take i).flatMap (dbS S0 b d u seen))).count v : Nat)
theorem take_s2 {P : List Int} {i : Nat} {k : Int} (h : i < P.length) (hk : P.getD i 0 = k) : P.take (i + 1) = P.take i ++ [k] := by rw [take_s h, hk]
theorem wkl_skip {S0 S : Nat → Int → Int} {b u : Int} {seen px : List Int} {n d i : Nat} (h : wkl S0 S b u seen px n d i) (hi : i < (lo_ (S0 1 0).toNat (S0 2) u).length) (hb : dbS S0 b d u seen ((lo_ (S0 1 0).toNat (S0 2) u).getD i 0) = []) : wkl S0 S b u seen px n d (i + 1) := by
  have e : ((lo_ (S0 1 0).toNat (S0 2) u).take (i + 1)).flatMap (dbS S0 b d u seen) = ((lo_ (S0 1 0).toNat (S0 2) u).take i).flatMap (dbS S0 b d u seen) := by
    rw [take_s hi, List.flatMap_append, List.flatMap_cons, hb]
    simp
  unfold wkl
  rw [e]
  exact h
theorem wkl_call {S0 S S1 S2 : Nat → Int → Int} {b u k : Int} {seen px : List Int} {n d i : Nat} (h : wkl S0 S b u seen px n d i) (hi : i < (lo_ (S0 1 0).toNat (S0 2) u).length) (hk : (lo_ (S0 1 0).toNat (S0 2) u).getD i 0 = k) (hF : S0 2 k = u) (hS : S0 6 k = 0) (hT : S0 3 k ∉ u :: seen) (h1 : S1 = us S 19 px.length k)
    (h2 : wkp S1 S2 (n + (cds S0 px (((lo_ (S0 1 0).toNat (S0 2) u).take i).flatMap (dbS S0 b d u seen))).length) (px ++ [k]).length (cds S1 (px ++ [k]) (dfS S1 b d (S0 3 k) (u :: seen)))) : wkl S0 S2 b u seen px n d (i + 1) := by
  obtain ⟨a1, a2, a3, a4, a5⟩ := h
  obtain ⟨b1, b2, b3, b4, b5⟩ := h2
  have g : ∀ j, j < 16 → S1 j = S0 j := fun j hj => by rw [h1, us_n (by omega), a1 j (by simp; omega)]
  have e0 : cds S1 (px ++ [k]) (dfS S1 b d (S0 3 k) (u :: seen)) = cds S0 px (dbS S0 b d u seen k) := by
    have : dbS S0 b d u seen k = (dfS S0 b d (S0 3 k) (u :: seen)).map (fun P => k :: P) := by
      show db _ _ _ _ _ _ _ = _
      unfold db
      rw [if_pos ⟨hF, hS, hT⟩]
    rw [this]
    unfold cds dfS
    rw [g 1 (by decide), g 2 (by decide), g 3 (by decide), g 4 (by decide), g 6 (by decide), List.map_map]
    apply List.map_congr_left
    intro P _
    simp
  have e1 : cds S0 px (((lo_ (S0 1 0).toNat (S0 2) u).take (i + 1)).flatMap (dbS S0 b d u seen)) = cds S0 px (((lo_ (S0 1 0).toNat (S0 2) u).take i).flatMap (dbS S0 b d u seen)) ++ cds S0 px (dbS S0 b d u seen k) := by
    rw [take_s2 hi hk, List.flatMap_append]
    simp [cds]
  rw [e0] at b4 b5
  have e2 : S1 16 = S 16 := by rw [h1, us_n (by decide)]
  refine ⟨fun j hj => ?_, fun v v0 v1 => ?_, fun j j0 j1 => ?_, ?_, fun v => ?_⟩
  · rw [b1 j hj, h1, us_n (by intro e; subst e; simp at hj), a1 j hj]
  · rw [b2 v v0 v1, h1, us_n (by decide)]; exact a2 v v0 v1
  · rw [b3 j j0 (by simp; omega), h1, us_s, up_n (by omega)]; exact a3 j j0 j1
  · rw [e1, List.length_append, ← Nat.add_assoc]; exact b4
  · rw [e1, List.length_append, ← Nat.add_assoc, b5 v, e2, a5 v, List.count_append]
    omega
theorem wkl_end {S0 S : Nat → Int → Int} {b u : Int} {seen px : List Int} {n d : Nat} (hub : u ≠ b) (hs : u ∉ seen) (hu : 0 ≤ u ∧ u < 8) (h18 : ∀ v : Int, 0 ≤ v → v < 8 → S0 18 v = if v ∈ seen then 1 else 0) (h : wkl S0 S b u seen px n d (lo_ (S0 1 0).toNat (S0 2) u).length) : wkp S0 (us S 18 u 0) n px.length (cds S0 px (dfS S0 b (d + 1) u seen)) := by
  obtain ⟨a1, a2, a3, a4, a5⟩ := h
  have e : dfS S0 b (d + 1) u seen = ((lo_ (S0 1 0).toNat (S0 2) u).take (lo_ (S0 1 0).toNat (S0 2) u).length).flatMap (dbS S0 b d u seen) := by
    rw [List.take_length]
    show df _ _ _ _ _ _ _ _ = _
    rw [df_s hub, lo_flat]
  rw [e]
  refine ⟨eqx_us a1 (by simp), fun v v0 v1 => ?_, fun j j0 j1 => by rw [us_n (by decide)]; exact a3 j j0 j1, ?_, fun v => by rw [us_n (by decide)]; exact a5 v⟩
  · rw [us_s, h18 v v0 v1]
    by_cases c : v = u
    · subst c; rw [up_s, if_neg hs]
    · rw [up_n c, a2 v v0 v1]
      simp [c]
  · unfold HPs at *
    rw [us_n (by decide), us_n (by decide)]
    exact a4

set_option maxRecDepth 100000 in
set_option maxHeartbeats 4000000 in
theorem lo_P_walkOn {l : Launch} {D : va_G} {a : Nat → Nat} {ki kz kl kq : ClassId} {p : Program} {e : Env} {s : State} {m : MethodId} {args : Array Value} {below : List Frame} {meth : Method} {c : Code} {S0 : Nat → Int → Int} {b u : Int} {seen px : List Int} {n d : Nat} (hG : GIs S0) (hb0 : S0 20 0 = b) (hb8 : 0 ≤ b ∧ b < 8) (hu : 0 ≤ u ∧ u < 8) (hs0 : u ∉ seen) (h18 : ∀ v : Int, 0 ≤ v → v < 8 → S0 18 v = if v ∈ seen then 1 else 0) (hpl : px.length + (d + 1) = 7) (hch : ∀ i : Nat, i < px.length → S0 19 (i : Int) = px.getD i 0) (hpx : ∀ k, k ∈ px → 0 ≤ k ∧ k < 20) (hcap : n + (dfS S0 b (d + 1) u seen).length ≤ 1458) (hub : u ≠ b) (hrec : ∀ (S : Nat → Int → Int) (u : Int) (seen px : List Int) (n : Nat), wkq S b u seen px n d → MX l D a ki kz kl kq y_P_walkOn b_P_walkOn 6 none (rm_P_walkOn d) [.ref (a 19), .int (iI u), .int (iI (px.length : Int))] S (pV fun S' => wkp S S' n px.length (cds S px (dfS S b d u seen)))) (C : CX p s m args c b_P_walkOn 6 "NextPaths$PathFinder" TT D cls (tyz ki kz kl kq)) (hr : meth.sig.returnType = none) (hk : meth.locks = false) : ∀ (k i : Nat) (S : Nat → Int → Int), i ≤ (lo_ (S0 1 0).toNat (S0 2) u).length → (lo_ (S0 1 0).toNat (S0 2) u).length ≤ i + k → wkl S0 S b u seen px n d i → GG p l e (rm_P_walkOn (d + 1)) s m args below meth c D cls (adr (wX a ki kz kl kq S0)) 6 0 0 (MQ below (QcW D cls (wX a ki kz kl kq) S0 (pV fun S' => wkp S0 S' n px.length (cds S0 px (dfS S0 b (d + 1) u seen)))) args s 0 0 (adr (wX a ki kz kl kq S0))) (wX a ki kz kl kq) S [(3, .int (iI (i : Int))), (0, .ref (a 19)), (1, .int (iI u)), (2, .int (iI (px.length : Int)))] 37 [] := by
  intro k
  induction k with
  | zero =>
    intro i S hi hk0 hI
    have hL := hG.2.2.2 u (by omega) (by omega)
    have hS7 : S 7 u = (lo_ (S0 1 0).toNat (S0 2) u).length := by rw [hI.1 7 (by decide)]; exact hL.1
    have hll := lo_len (n := (S0 1 0).toNat) (F := S0 2) (v := u)
    have hG1 := hG.2.1
    refine g_iload_n C d_P_walkOn_37 rfl rfl ?_
    refine g_aload_n C d_P_walkOn_38 rfl rfl ?_
    refine g_get C 19 0 i_P wX_19 rfl (by decide) k_P_19 rfl rfl d_P_walkOn_39 rfl ?_
    refine g_getN C 1 8 i_G wX_1 rfl (by decide) k_P_48 rfl rfl d_P_walkOn_42 rfl ?_
    refine g_iload_n C d_P_walkOn_45 rfl rfl ?_
    refine g_iald C 16 0 wX_16 rfl (by omega) (by omega) (by decide) d_P_walkOn_46 rfl ?_
    refine g_v (z' := ((lo_ (S0 1 0).toNat (S0 2) u).length : Int)) hS7 ?_
    refine g_icmp_ge (tgt := 121) C d_P_walkOn_47 (by decide) rfl (by omega) (by omega) (fun h47 => ?_) (fun h47 => ?_)
    · refine g_aload_n C d_P_walkOn_121 rfl rfl ?_
      refine g_get C 19 2 i_P wX_19 rfl (by decide) k_P_9 rfl rfl d_P_walkOn_122 rfl ?_
      refine g_iload_n C d_P_walkOn_125 rfl rfl ?_
      refine g_iconst (z := 0) C d_P_walkOn_126 rfl rfl ?_
      refine g_zast C 20 1 wX_20 rfl (by omega) (by omega) (by decide) (by omega) wX_s20 d_P_walkOn_127 rfl ?_
      refine g_vret C hr hk d_P_walkOn_128 ⟨rfl, ?_⟩
      have hi : i = (lo_ (S0 1 0).toNat (S0 2) u).length := by omega
      subst hi
      exact wkl_end hub hs0 hu h18 hI
    · exact absurd h47 (by omega)
  | succ k ih =>
    intro i S hi hk0 hI
    have hL := hG.2.2.2 u (by omega) (by omega)
    have hS7 : S 7 u = (lo_ (S0 1 0).toNat (S0 2) u).length := by rw [hI.1 7 (by decide)]; exact hL.1
    have hll := lo_len (n := (S0 1 0).toNat) (F := S0 2) (v := u)
    have hG1 := hG.2.1
    refine g_iload_n C d_P_walkOn_37 rfl rfl ?_
    refine g_aload_n C d_P_walkOn_38 rfl rfl ?_
    refine g_get C 19 0 i_P wX_19 rfl (by decide) k_P_19 rfl rfl d_P_walkOn_39 rfl ?_
    refine g_getN C 1 8 i_G wX_1 rfl (by decide) k_P_48 rfl rfl d_P_walkOn_42 rfl ?_
    refine g_iload_n C d_P_walkOn_45 rfl rfl ?_
    refine g_iald C 16 0 wX_16 rfl (by omega) (by omega) (by decide) d_P_walkOn_46 rfl ?_
    refine g_v (z' := ((lo_ (S0 1 0).toNat (S0 2) u).length : Int)) hS7 ?_
    refine g_icmp_ge (tgt := 121) C d_P_walkOn_47 (by decide) rfl (by omega) (by omega) (fun h47 => ?_) (fun h47 => ?_)
    · refine g_aload_n C d_P_walkOn_121 rfl rfl ?_
      refine g_get C 19 2 i_P wX_19 rfl (by decide) k_P_9 rfl rfl d_P_walkOn_122 rfl ?_
      refine g_iload_n C d_P_walkOn_125 rfl rfl ?_
      refine g_iconst (z := 0) C d_P_walkOn_126 rfl rfl ?_
      refine g_zast C 20 1 wX_20 rfl (by omega) (by omega) (by decide) (by omega) wX_s20 d_P_walkOn_127 rfl ?_
      refine g_vret C hr hk d_P_walkOn_128 ⟨rfl, ?_⟩
      have hi : i = (lo_ (S0 1 0).toNat (S0 2) u).length := by omega
      subst hi
      exact wkl_end hub hs0 hu h18 hI
    · have hlt : i < (lo_ (S0 1 0).toNat (S0 2) u).length := by omega
      have hrow : S (8 + u.toNat) (i : Int) = (lo_ (S0 1 0).toNat (S0 2) u).getD i 0 := by
        rw [hI.1 (8 + u.toNat) (by simp; omega)]; exact hL.2 i hlt
      refine g_aload_n C d_P_walkOn_50 rfl rfl ?_
      refine g_get C 19 0 i_P wX_19 rfl (by decide) k_P_19 rfl rfl d_P_walkOn_51 rfl ?_
      refine g_getN C 1 7 i_G wX_1 rfl (by decide) k_P_53 rfl rfl d_P_walkOn_54 rfl ?_
      refine g_iload_n C d_P_walkOn_57 rfl rfl ?_
      refine g_aald (z := u) C 7 3 wX_7 rfl (by omega) (by omega) (by decide) (if_pos (by omega)) d_P_walkOn_58 rfl ?_
      refine g_iload_n C d_P_walkOn_59 rfl rfl ?_
      refine g_iald C (8 + u.toNat) 0 (wX_row (by omega)) rfl (by omega) (by omega) (by decide) d_P_walkOn_60 rfl ?_
      refine g_v (z' := ((lo_ (S0 1 0).toNat (S0 2) u).getD i 0)) hrow ?_
      refine g_nm (fun k1 e_k1 => ?_)
      refine g_istore (lv' := [(4, .int (iI k1)), (3, .int (iI (i : Int))), (0, .ref (a 19)), (1, .int (iI u)), (2, .int (iI (px.length : Int)))]) C d_P_walkOn_61 (by decide) rfl rfl ?_
      have hk1 : (lo_ (S0 1 0).toNat (S0 2) u).getD i 0 = k1 := e_k1.symm
      have hkm := lo_mem.mp (show k1 ∈ lo_ (S0 1 0).toNat (S0 2) u by rw [← hk1]; simp [hlt])
      have hok := hG.2.2.1.2.2.1 k1
      refine g_aload_n C d_P_walkOn_63 rfl rfl ?_
      refine g_get C 19 0 i_P wX_19 rfl (by decide) k_P_19 rfl rfl d_P_walkOn_64 rfl ?_
      refine g_getN C 1 3 i_G wX_1 rfl (by decide) k_P_57 rfl rfl d_P_walkOn_67 rfl ?_
      refine g_iload C d_P_walkOn_70 rfl rfl ?_
      refine g_iald C 3 0 wX_3 rfl (by omega) (by omega) (by decide) d_P_walkOn_72 rfl ?_
      refine g_v (z' := (S0 3 k1)) (by rw [hI.1 3 (by decide)]) ?_
      refine g_nm (fun t1 e_t1 => ?_)
      refine g_istore (lv' := [(5, .int (iI t1)), (4, .int (iI k1)), (3, .int (iI (i : Int))), (0, .ref (a 19)), (1, .int (iI u)), (2, .int (iI (px.length : Int)))]) C d_P_walkOn_73 (by decide) rfl rfl ?_
      refine g_aload_n C d_P_walkOn_75 rfl rfl ?_
      refine g_get C 19 0 i_P wX_19 rfl (by decide) k_P_19 rfl rfl d_P_walkOn_76 rfl ?_
      refine g_getN C 1 6 i_G wX_1 rfl (by decide) k_P_60 rfl rfl d_P_walkOn_79 rfl ?_
      refine g_iload C d_P_walkOn_82 rfl rfl ?_
      refine g_zald C 6 1 wX_6 rfl (by omega) (by omega) (by decide) d_P_walkOn_84 rfl ?_
      refine g_v (z' := (S0 6 k1)) (by rw [hI.1 6 (by decide)]) ?_
      refine g_if_ne (tgt := 115) C d_P_walkOn_85 (by decide) rfl (by omega) (fun h85 => ?_) (fun h85 => ?_)
      · obtain ⟨i2, e_i2⟩ : ∃ z : Int, z = (i : Int) + 1 := ⟨_, rfl⟩
        refine g_iinc (q := 2) (z := i2) (lv' := [(3, .int (iI i2)), (5, .int (iI t1)), (4, .int (iI k1)), (0, .ref (a 19)), (1, .int (iI u)), (2, .int (iI (px.length : Int)))]) C d_P_walkOn_115 rfl e_i2.symm (by decide) rfl rfl ?_
        refine g_goto (tgt := 37) C d_P_walkOn_118 (by decide) ?_
        refine GG.lvs (lv' := [(3, .int (iI ((i + 1 : Nat) : Int))), (0, .ref (a 19)), (1, .int (iI u)), (2, .int (iI (px.length : Int)))]) (by rw [show i2 = ((i + 1 : Nat) : Int) by omega]; simp [lk]) ?_
        first
          | exact ih (i + 1) _ (by omega) (by omega) (wkl_call hI hlt hk1 hkm.2 h85 hnT rfl (e_t1 ▸ hp))
          | exact ih (i + 1) _ (by omega) (by omega) (wkl_skip hI hlt (by rw [hk1]; show db _ _ _ _ _ _ _ = _; unfold db; rw [if_neg (fun q => h85 q.2.1)]))
          | exact ih (i + 1) _ (by omega) (by omega) (wkl_skip hI hlt (by
              rw [hk1]; show db _ _ _ _ _ _ _ = _; unfold db
              rw [if_neg (fun q => by
                have h9 := hI.2.1 t1 (by omega) (by omega)
                rw [if_neg (by rw [e_t1]; exact q.2.2)] at h9
                exact h95 h9)]))
      · refine g_aload_n C d_P_walkOn_88 rfl rfl ?_
        refine g_get C 19 2 i_P wX_19 rfl (by decide) k_P_9 rfl rfl d_P_walkOn_89 rfl ?_
        refine g_iload C d_P_walkOn_92 rfl rfl ?_
        refine g_zald C 20 1 wX_20 rfl (by omega) (by omega) (by decide) d_P_walkOn_94 rfl ?_
        refine g_if_ne (tgt := 115) C d_P_walkOn_95 (by decide) rfl (by have h9 := hI.2.1 t1 (by omega) (by omega); split at h9 <;> omega) (fun h95 => ?_) (fun h95 => ?_)
        · obtain ⟨i2, e_i2⟩ : ∃ z : Int, z = (i : Int) + 1 := ⟨_, rfl⟩
          refine g_iinc (q := 2) (z := i2) (lv' := [(3, .int (iI i2)), (5, .int (iI t1)), (4, .int (iI k1)), (0, .ref (a 19)), (1, .int (iI u)), (2, .int (iI (px.length : Int)))]) C d_P_walkOn_115 rfl e_i2.symm (by decide) rfl rfl ?_
          refine g_goto (tgt := 37) C d_P_walkOn_118 (by decide) ?_
          refine GG.lvs (lv' := [(3, .int (iI ((i + 1 : Nat) : Int))), (0, .ref (a 19)), (1, .int (iI u)), (2, .int (iI (px.length : Int)))]) (by rw [show i2 = ((i + 1 : Nat) : Int) by omega]; simp [lk]) ?_
          first
            | exact ih (i + 1) _ (by omega) (by omega) (wkl_call hI hlt hk1 hkm.2 h85 hnT rfl (e_t1 ▸ hp))
            | exact ih (i + 1) _ (by omega) (by omega) (wkl_skip hI hlt (by rw [hk1]; show db _ _ _ _ _ _ _ = _; unfold db; rw [if_neg (fun q => h85 q.2.1)]))
            | exact ih (i + 1) _ (by omega) (by omega) (wkl_skip hI hlt (by
                rw [hk1]; show db _ _ _ _ _ _ _ = _; unfold db
                rw [if_neg (fun q => by
                  have h9 := hI.2.1 t1 (by omega) (by omega)
                  rw [if_neg (by rw [e_t1]; exact q.2.2)] at h9
                  exact h95 h9)]))
        · have hnT : S0 3 k1 ∉ u :: seen := fun q => by
            have h9 := hI.2.1 t1 (by omega) (by omega)
            rw [if_pos (by rw [e_t1]; exact q)] at h9
            omega
          refine g_aload_n C d_P_walkOn_98 rfl rfl ?_
          refine g_get C 19 3 i_P wX_19 rfl (by decide) k_P_15 rfl rfl d_P_walkOn_99 rfl ?_
          refine g_iload_n C d_P_walkOn_102 rfl rfl ?_
          refine g_iload C d_P_walkOn_103 rfl rfl ?_
          refine g_iast C 21 0 wX_21 rfl (by omega) (by omega) (by decide) wX_s21 d_P_walkOn_105 rfl ?_
          have hq : wkq (us S 19 px.length k1) b t1 (u :: seen) (px ++ [k1]) (n + (cds S0 px (((lo_ (S0 1 0).toNat (S0 2) u).take i).flatMap (dbS S0 b d u seen))).length) d := by
            refine ⟨GIs_eq (fun j hj => by rw [us_n (by omega), hI.1 j (by simp; omega)]) hG, by rw [us_n (by decide), hI.1 20 (by decide)]; exact hb0, hb8, by omega, by rw [e_t1]; exact hnT, fun v v0 v1 => by rw [us_n (by decide)]; exact hI.2.1 v v0 v1, by simp; omega, fun j hj => ?_, fun k hk => ?_, ?_, ?_⟩
            · rw [us_s]
              by_cases e : j = px.length
              · subst e; rw [up_s]; simp
              · have hj2 : j < px.length := by simp at hj; omega
                rw [up_n (by omega), hI.2.2.1 j (by omega) (by omega), hch j hj2]
                simp [List.getElem?_append_left hj2, hj2]
            · rcases List.mem_append.mp hk with hk | hk
              · exact hpx k hk
              · have : k = k1 := by simpa using hk
                omega
            · have := hI.2.2.2.1
              unfold HPs at *
              rw [us_n (by decide), us_n (by decide)]
              exact this
            · have g : ∀ j, j < 16 → us S 19 px.length k1 j = S0 j := fun j hj => by rw [us_n (by omega), hI.1 j (by simp; omega)]
              have e0 : dfS (us S 19 px.length k1) b d t1 (u :: seen) = dfS S0 b d (S0 3 k1) (u :: seen) := by
                unfold dfS
                rw [g 1 (by decide), g 2 (by decide), g 3 (by decide), g 6 (by decide), e_t1]
              have e1 : (dbS S0 b d u seen k1).length = (dfS S0 b d (S0 3 k1) (u :: seen)).length := by
                show (db _ _ _ _ _ _ _).length = _
                unfold db
                rw [if_pos ⟨hkm.2, h85, hnT⟩, List.length_map]
              have e2 : dfS S0 b (d + 1) u seen = ((lo_ (S0 1 0).toNat (S0 2) u).take (i + 1)).flatMap (dbS S0 b d u seen) ++ ((lo_ (S0 1 0).toNat (S0 2) u).drop (i + 1)).flatMap (dbS S0 b d u seen) := by
                rw [← List.flatMap_append, List.take_append_drop]
                show df _ _ _ _ _ _ _ _ = _
                rw [df_s hub, lo_flat]
              have e3 := congrArg List.length e2
              rw [take_s2 hlt hk1, List.flatMap_append] at e3
              simp only [List.length_append, List.flatMap_cons, List.flatMap_nil, List.append_nil] at e3
              rw [e0, ← e1, cds_len]
              omega
          refine g_aload_n C d_P_walkOn_106 rfl rfl ?_
          refine g_iload C d_P_walkOn_107 rfl rfl ?_
          refine g_iload_n C d_P_walkOn_109 rfl rfl ?_
          refine g_iconst (z := 1) C d_P_walkOn_110 rfl rfl ?_
          refine g_iadd (z := (((px ++ [k1]).length : Nat) : Int)) C d_P_walkOn_111 (by simp) rfl ?_
          refine g_runV (wX_fix a ki kz kl kq) rfl (rn_S C (hrec (us S 19 px.length k1) t1 (u :: seen) (px ++ [k1]) _ hq) 3 kc_P_walkOn k_P_36 ks_P_walkOn kn_P hy_P_walkOn ⟨rfl, rfl⟩ ⟨by show 3 + d + 1 ≤ 3 + (d + 1); omega, by show 8 + (6 + 11) + (66 + 25 * d) ≤ 66 + 25 * (d + 1); omega⟩ ⟨Nat.le_refl _, Nat.le_refl _⟩ rfl rfl (Nat.le_of_ble_eq_true rfl) d_P_walkOn_112) (fun S2 hp => ?_)
          obtain ⟨i2, e_i2⟩ : ∃ z : Int, z = (i : Int) + 1 := ⟨_, rfl⟩
          refine g_iinc (q := 2) (z := i2) (lv' := [(3, .int (iI i2)), (5, .int (iI t1)), (4, .int (iI k1)), (0, .ref (a 19)), (1, .int (iI u)), (2, .int (iI (px.length : Int)))]) C d_P_walkOn_115 rfl e_i2.symm (by decide) rfl rfl ?_
          refine g_goto (tgt := 37) C d_P_walkOn_118 (by decide) ?_
          refine GG.lvs (lv' := [(3, .int (iI ((i + 1 : Nat) : Int))), (0, .ref (a 19)), (1, .int (iI u)), (2, .int (iI (px.length : Int)))]) (by rw [show i2 = ((i + 1 : Nat) : Int) by omega]; simp [lk]) ?_
          first
            | exact ih (i + 1) _ (by omega) (by omega) (wkl_call hI hlt hk1 hkm.2 h85 hnT rfl (e_t1 ▸ hp))
            | exact ih (i + 1) _ (by omega) (by omega) (wkl_skip hI hlt (by rw [hk1]; show db _ _ _ _ _ _ _ = _; unfold db; rw [if_neg (fun q => h85 q.2.1)]))
            | exact ih (i + 1) _ (by omega) (by omega) (wkl_skip hI hlt (by
                rw [hk1]; show db _ _ _ _ _ _ _ = _; unfold db
                rw [if_neg (fun q => by
                  have h9 := hI.2.1 t1 (by omega) (by omega)
                  rw [if_neg (by rw [e_t1]; exact q.2.2)] at h9
                  exact h95 h9)]))

set_option maxRecDepth 100000 in
set_option maxHeartbeats 4000000 in
theorem m_P_walkOn {l : Launch} {D : va_G} {a : Nat → Nat} {ki kz kl kq : ClassId} {b : Int} : ∀ (d : Nat) (S : Nat → Int → Int) (u : Int) (seen px : List Int) (n : Nat), wkq S b u seen px n d → MX l D a ki kz kl kq y_P_walkOn b_P_walkOn 6 none (rm_P_walkOn d) [.ref (a 19), .int (iI u), .int (iI (px.length : Int))] S (pV fun S' => wkp S S' n px.length (cds S px (dfS S b d u seen))) := by
  intro d
  induction d with
  | zero =>
    intro S u seen px n hw
    obtain ⟨g1, g2, g3, g4, g5, g6, g7, g8, g9, g10, g11⟩ := hw
    refine MM.go b_P_walkOn 6 none "NextPaths$PathFinder" [(0, .ref (a 19)), (1, .int (iI u)), (2, .int (iI (px.length : Int)))] (by decide) rfl rfl (Nat.le_of_ble_eq_true rfl) ?_
    intro p e s m args below meth c C hr hk
    refine g_iload_n C d_P_walkOn_0 rfl rfl ?_
    refine g_aload_n C d_P_walkOn_1 rfl rfl ?_
    refine g_get C 19 4 i_P wX_19 rfl (by decide) k_P_32 rfl rfl d_P_walkOn_2 rfl ?_
    refine g_icmp_ne (tgt := 21) C d_P_walkOn_5 (by decide) rfl (by omega) (by omega) (fun h5 => ?_) (fun h5 => ?_)
    · refine g_iload_n C d_P_walkOn_21 rfl rfl ?_
      refine g_bipush (z := 7) C d_P_walkOn_22 rfl (by decide) ?_
      refine g_icmp_lt (tgt := 28) C d_P_walkOn_24 (by decide) rfl (by omega) (by omega) (fun h24 => ?_) (fun h24 => ?_)
      · exact absurd h24 (by omega)
      · refine g_vret C hr hk d_P_walkOn_27 ⟨rfl, ?_⟩
        have e : dfS S b 0 u seen = [] := by
          show df _ _ _ _ _ _ _ _ = _
          simp only [df]
          rw [if_neg (by omega)]
        rw [e]
        exact wkp_none g10
    · have hub : u = b := by omega
      subst hub
      have hok5 : ok5 px := ⟨by omega, fun k hk => by have := g9 k hk; omega⟩
      have hW : ∀ k, 0 ≤ S 4 k ∧ S 4 k ≤ 1000 := fun k => ⟨(g1.2.2.1.2.2.1 k).2.2.2.2.1, (g1.2.2.1.2.2.1 k).2.2.2.2.2.1⟩
      have hcap : n < 1458 := by rw [show dfS S u _ u seen = [[]] from df_b _ _] at g11; simp at g11; omega
      refine g_aload_n C d_P_walkOn_8 rfl rfl ?_
      refine g_get C 19 1 i_P wX_19 rfl (by decide) k_P_23 rfl rfl d_P_walkOn_9 rfl ?_
      refine g_aload_n C d_P_walkOn_12 rfl rfl ?_
      refine g_iload_n C d_P_walkOn_13 rfl rfl ?_
      refine g_runL (wX_fix a ki kz kl kq) rfl (rn_V C (m_P_code hok5 g8 (fun k hk => (g9 k hk).2) hW) 19 1 wX_19 rfl rfl kc_P_code k_P_40 ki_P_code kx_P_code kn_P hy_P_code ⟨rfl, rfl⟩ ⟨by show 2 + 1 ≤ 3 + 0; omega, by show 8 + (6 + 11) + 41 ≤ 66 + 25 * 0; omega⟩ ⟨Nat.le_refl _, Nat.le_refl _⟩ rfl rfl (Nat.le_of_ble_eq_true rfl) d_P_walkOn_14) (fun r S1 hp => ?_)
      obtain ⟨hS1, rfl⟩ := hp
      refine GG.at hS1 ?_
      refine g_runV (wX_fix a ki kz kl kq) rfl (rn_VN C (m_H_add (n := n) (by have := cd_bd hW hok5; omega) g10.1 hcap g10.2.1 g10.2.2) 17 1 wX_17 rfl rfl kc_H_add k_P_44 ki_H_add kx_H_add kn_H hy_H_add ⟨rfl, rfl⟩ ⟨by show 0 + 1 ≤ 3 + 0; omega, by show 8 + (4 + 11) + 0 ≤ 66 + 25 * 0; omega⟩ ⟨Nat.le_refl _, Nat.le_refl _⟩ rfl rfl (Nat.le_of_ble_eq_true rfl) d_P_walkOn_17) (fun S1 hp => ?_)
      refine g_vret C hr hk d_P_walkOn_20 ⟨rfl, ?_⟩
      rw [show dfS S u _ u seen = [[]] from df_b _ _]
      exact wkp_goal hp
  | succ d ih =>
    intro S u seen px n hw
    obtain ⟨g1, g2, g3, g4, g5, g6, g7, g8, g9, g10, g11⟩ := hw
    refine MM.go b_P_walkOn 6 none "NextPaths$PathFinder" [(0, .ref (a 19)), (1, .int (iI u)), (2, .int (iI (px.length : Int)))] (by decide) rfl rfl (Nat.le_of_ble_eq_true rfl) ?_
    intro p e s m args below meth c C hr hk
    refine g_iload_n C d_P_walkOn_0 rfl rfl ?_
    refine g_aload_n C d_P_walkOn_1 rfl rfl ?_
    refine g_get C 19 4 i_P wX_19 rfl (by decide) k_P_32 rfl rfl d_P_walkOn_2 rfl ?_
    refine g_icmp_ne (tgt := 21) C d_P_walkOn_5 (by decide) rfl (by omega) (by omega) (fun h5 => ?_) (fun h5 => ?_)
    · refine g_iload_n C d_P_walkOn_21 rfl rfl ?_
      refine g_bipush (z := 7) C d_P_walkOn_22 rfl (by decide) ?_
      refine g_icmp_lt (tgt := 28) C d_P_walkOn_24 (by decide) rfl (by omega) (by omega) (fun h24 => ?_) (fun h24 => ?_)
      · refine g_aload_n C d_P_walkOn_28 rfl rfl ?_
        refine g_get C 19 2 i_P wX_19 rfl (by decide) k_P_9 rfl rfl d_P_walkOn_29 rfl ?_
        refine g_iload_n C d_P_walkOn_32 rfl rfl ?_
        refine g_iconst (z := 1) C d_P_walkOn_33 rfl rfl ?_
        refine g_zast C 20 1 wX_20 rfl (by omega) (by omega) (by decide) (by omega) wX_s20 d_P_walkOn_34 rfl ?_
        refine g_iconst (z := 0) C d_P_walkOn_35 rfl rfl ?_
        refine g_nm (fun i0 e_i0 => ?_)
        refine g_istore_n (lv' := [(3, .int (iI i0)), (0, .ref (a 19)), (1, .int (iI u)), (2, .int (iI (px.length : Int)))]) C d_P_walkOn_36 (by decide) rfl rfl ?_
        subst e_i0
        refine lo_P_walkOn g1 g2 g3 g4 g5 g6 g7 g8 g9 g11 (by omega) ih C hr hk _ 0 _ (by omega) (Nat.le_add_left _ _) ⟨eqx_us eqx_rf (by simp), fun v v0 v1 => ?_, fun j _ _ => by rw [us_n (by decide)], ?_, fun v => ?_⟩
        · rw [us_s]
          by_cases e : v = u
          · subst e; rw [up_s]; simp
          · rw [up_n e, g6 v v0 v1]; simp [e]
        · simp only [List.take_zero, List.flatMap_nil, cds, List.map_nil, List.length_nil, Nat.add_zero]
          unfold HPs at *
          rw [us_n (by decide), us_n (by decide)]
          exact g10
        · simp only [List.take_zero, List.flatMap_nil, cds, List.map_nil, List.length_nil, Nat.add_zero, List.count_nil]
          rw [us_n (by decide)]
          simp
      · exact absurd h24 (by omega)
    · have hub : u = b := by omega
      subst hub
      have hok5 : ok5 px := ⟨by omega, fun k hk => by have := g9 k hk; omega⟩
      have hW : ∀ k, 0 ≤ S 4 k ∧ S 4 k ≤ 1000 := fun k => ⟨(g1.2.2.1.2.2.1 k).2.2.2.2.1, (g1.2.2.1.2.2.1 k).2.2.2.2.2.1⟩
      have hcap : n < 1458 := by rw [show dfS S u _ u seen = [[]] from df_b _ _] at g11; simp at g11; omega
      refine g_aload_n C d_P_walkOn_8 rfl rfl ?_
      refine g_get C 19 1 i_P wX_19 rfl (by decide) k_P_23 rfl rfl d_P_walkOn_9 rfl ?_
      refine g_aload_n C d_P_walkOn_12 rfl rfl ?_
      refine g_iload_n C d_P_walkOn_13 rfl rfl ?_
      refine g_runL (wX_fix a ki kz kl kq) rfl (rn_V C (m_P_code hok5 g8 (fun k hk => (g9 k hk).2) hW) 19 1 wX_19 rfl rfl kc_P_code k_P_40 ki_P_code kx_P_code kn_P hy_P_code ⟨rfl, rfl⟩ ⟨by show 2 + 1 ≤ 3 + (d + 1); omega, by show 8 + (6 + 11) + 41 ≤ 66 + 25 * (d + 1); omega⟩ ⟨Nat.le_refl _, Nat.le_refl _⟩ rfl rfl (Nat.le_of_ble_eq_true rfl) d_P_walkOn_14) (fun r S1 hp => ?_)
      obtain ⟨hS1, rfl⟩ := hp
      refine GG.at hS1 ?_
      refine g_runV (wX_fix a ki kz kl kq) rfl (rn_VN C (m_H_add (n := n) (by have := cd_bd hW hok5; omega) g10.1 hcap g10.2.1 g10.2.2) 17 1 wX_17 rfl rfl kc_H_add k_P_44 ki_H_add kx_H_add kn_H hy_H_add ⟨rfl, rfl⟩ ⟨by show 0 + 1 ≤ 3 + (d + 1); omega, by show 8 + (4 + 11) + 0 ≤ 66 + 25 * (d + 1); omega⟩ ⟨Nat.le_refl _, Nat.le_refl _⟩ rfl rfl (Nat.le_of_ble_eq_true rfl) d_P_walkOn_17) (fun S1 hp => ?_)
      refine g_vret C hr hk d_P_walkOn_20 ⟨rfl, ?_⟩
      rw [show dfS S u _ u seen = [[]] from df_b _ _]
      exact wkp_goal hp
end
section
/-! the class: all paths found, second weights, the path told -/
def BZ (S : Nat → Int → Int) : Prop := ∀ v : Int, 0 ≤ v → v < 8 → S 18 v = 0
abbrev spS (S : Nat → Int → Int) (u b : Int) : List (List Int) := sp (S 1 0).toNat (S 2) (S 3) (S 6) (S 4) u b
/-- k of the paths have been taken out of the heap -/
def FNk (S S' : Nat → Int → Int) (u b : Int) (k : Nat) : Prop := eqx [16, 17, 18, 19, 20] S S' ∧ BZ S' ∧ HPs S' ((spS S u b).length - k) ∧ ∀ v, ct (S' 16) v ((spS S u b).length - k) = ((((spS S u b).drop k).map (cd (S 4))).count v : Nat)
theorem FNk_0 {S S1 S' : Nat → Int → Int} {u b : Int} (h1 : S1 = us (us S 17 0 0) 20 0 b) (hz : BZ S) (h : wkp S1 S' 0 0 (cds S1 [] (dfS S1 b 7 u []))) : FNk S S' u b 0 := by
  obtain ⟨a1, a2, a3, a4, a5⟩ := h
  have g : ∀ j, j ≠ 17 → j ≠ 20 → S1 j = S j := fun j h17 h20 => by rw [h1, us_n h20, us_n h17]
  have e0 : cds S1 [] (dfS S1 b 7 u []) = (dfS S b 7 u []).map (cd (S 4)) := by
    unfold cds dfS
    rw [g 1 (by decide) (by decide), g 2 (by decide) (by decide), g 3 (by decide) (by decide), g 4 (by decide) (by decide), g 6 (by decide) (by decide)]
    simp
  have hp : (spS S u b).Perm (dfS S b 7 u []) := sp_perm
  rw [e0] at a4 a5
  rw [List.length_map, ← hp.length_eq, Nat.zero_add] at a4
  refine ⟨fun j hj => ?_, fun v v0 v1 => ?_, by simpa using a4, fun v => ?_⟩
  · rw [a1 j (by simp at hj ⊢; omega), g j (by simp at hj; omega) (by simp at hj; omega)]
  · rw [a2 v v0 v1, g 18 (by decide) (by decide)]; exact hz v v0 v1
  · have := a5 v
    rw [List.length_map, ← hp.length_eq, Nat.zero_add, ct_0, (hp.symm.map (cd (S 4))).count_eq] at this
    simpa using this
theorem FNk_take {S S1 S2 : Nat → Int → Int} {u b : Int} {k : Nat} (hk : k < (spS S u b).length) (h : FNk S S1 u b k) (h2 : htak S1 S2 ((spS S u b).length - (k + 1))) : FNk S S2 u b (k + 1) ∧ S1 16 0 = cd (S 4) ((spS S u b).getD k []) := by
  obtain ⟨a1, a2, a3, a4⟩ := h
  obtain ⟨b1, b2, b3, b4, b5⟩ := h2
  have hd : (spS S u b).drop k = (spS S u b).getD k [] :: (spS S u b).drop (k + 1) := by
    rw [List.drop_eq_getElem_cons hk]
    simp [hk]
  have hl : (spS S u b).length - k = ((spS S u b).length - (k + 1)) + 1 := by omega
  have hsort : ((cd (S 4) ((spS S u b).getD k [])) :: ((spS S u b).drop (k + 1)).map (cd (S 4))).Pairwise (fun x y => x ≤ y) := by
    have h9 : ((spS S u b).drop k).Pairwise (fun P Q => cd (S 4) P ≤ cd (S 4) Q) := List.Pairwise.sublist (List.drop_sublist _ _) sp_sorted
    rw [hd] at h9
    have h8 := List.pairwise_map.mpr h9
    exact h8
  have hc : ∀ v, ct (S1 16) v ((spS S u b).length - k) = ((cd (S 4) ((spS S u b).getD k []) :: ((spS S u b).drop (k + 1)).map (cd (S 4))).count v : Nat) := fun v => by
    rw [a4 v, hd]; rfl
  have h0 := hp_first a3.2.1 hsort hc (by omega)
  refine ⟨⟨fun j hj => ?_, fun v v0 v1 => ?_, ⟨b2, b3, b5⟩, fun v => ?_⟩, h0⟩
  · rw [b1 j (by simp at hj ⊢; omega), a1 j hj]
  · rw [b1 18 (by decide)]; exact a2 v v0 v1
  · have q1 := b4 v
    have q2 := hc v
    rw [hl] at q2
    rw [← q1, h0, List.count_cons] at q2
    simp only [beq_iff_eq] at q2
    by_cases c : cd (S 4) ((spS S u b).getD k []) = v
    · rw [if_pos c, if_pos c] at q2; omega
    · rw [if_neg c, if_neg c] at q2; omega

set_option maxRecDepth 100000 in
set_option maxHeartbeats 4000000 in
theorem m_P_findAll {l : Launch} {D : va_G} {a : Nat → Nat} {ki kz kl kq : ClassId} {S : Nat → Int → Int} {u b : Int} (hG : GIs S) (hz : BZ S) (hu : 0 ≤ u ∧ u < S 0 0) (hv : 0 ≤ b ∧ b < S 0 0) : MX l D a ki kz kl kq y_P_findAll b_P_findAll 3 none rm_P_findAll [.ref (a 19), .int (iI u), .int (iI b)] S (pV fun S' => FNk S S' u b 0) := by
  refine MM.go b_P_findAll 3 none "NextPaths$PathFinder" [(0, .ref (a 19)), (1, .int (iI u)), (2, .int (iI b))] (by decide) rfl rfl (Nat.le_of_ble_eq_true rfl) ?_
  intro p e s m args below meth c C hr hk
  refine g_aload_n C d_P_findAll_0 rfl rfl ?_
  refine g_get C 19 1 i_P wX_19 rfl (by decide) k_P_23 rfl rfl d_P_findAll_1 rfl ?_
  refine g_runV (wX_fix a ki kz kl kq) rfl (rn_VN C (m_H_empty) 17 0 wX_17 rfl rfl kc_H_empty k_P_27 ki_H_empty kx_H_empty kn_H hy_H_empty ⟨rfl, rfl⟩ ⟨by decide, by decide⟩ ⟨Nat.le_refl _, Nat.le_refl _⟩ rfl rfl (Nat.le_of_ble_eq_true rfl) d_P_findAll_4) (fun S1 hp => ?_)
  subst hp
  refine g_aload_n C d_P_findAll_7 rfl rfl ?_
  refine g_iload_n C d_P_findAll_8 rfl rfl ?_
  refine g_put (ty := .int) C 19 4 ty_P i_P ty_P_ok n_P wX_19 rfl (by decide) k_P_32 rfl rfl (by decide +kernel) rfl rfl (Nat.le_of_ble_eq_true rfl) wX_p19_4 d_P_findAll_9 rfl ?_
  have hq : wkq (us (us S 17 0 0) 20 0 b) b u [] [] 0 7 := by
    have hn8 := hG.1
    refine ⟨GIs_eq (fun k hk => by rw [us_n (by omega), us_n (by omega)]) hG, by rw [us_s, up_s], by omega, by omega, by simp, fun v v0 v1 => ?_, rfl, fun i hi => by simp at hi, fun k hk => by simp at hk, ⟨?_, ?_, ?_⟩, ?_⟩
    · rw [us_n (by decide), us_n (by decide), hz v v0 v1]; simp
    · rw [us_n (by decide), us_s, up_s]; rfl
    · intro i i0 i1; omega
    · intro i i0 i1; omega
    · have := sp_len hG.2.2.1 (a := u) (b := b) (by omega) (by omega)
      rw [(sp_perm (n := (S 1 0).toNat) (F := S 2) (T := S 3) (Sh := S 6) (W := S 4) (a := u) (b := b)).length_eq] at this
      rw [Nat.zero_add]
      exact this
  refine g_aload_n C d_P_findAll_12 rfl rfl ?_
  refine g_iload_n C d_P_findAll_13 rfl rfl ?_
  refine g_iconst (z := 0) C d_P_findAll_14 rfl rfl ?_
  refine g_runV (wX_fix a ki kz kl kq) rfl (rn_S C (m_P_walkOn 7 _ u [] [] 0 hq) 3 kc_P_walkOn k_P_36 ks_P_walkOn kn_P hy_P_walkOn ⟨rfl, rfl⟩ ⟨by decide, by decide⟩ ⟨Nat.le_refl _, Nat.le_refl _⟩ rfl rfl (Nat.le_of_ble_eq_true rfl) d_P_findAll_15) (fun S1 hp => ?_)
  refine g_vret C hr hk d_P_findAll_18 ⟨rfl, ?_⟩
  exact FNk_0 rfl hz hp

set_option maxRecDepth 100000 in
set_option maxHeartbeats 4000000 in
theorem lo_G_secondOf {l : Launch} {D : va_G} {a : Nat → Nat} {ki kz kl kq : ClassId} {p : Program} {e : Env} {s : State} {m : MethodId} {args : Array Value} {below : List Frame} {meth : Method} {c : Code} {S : Nat → Int → Int} {W : Int → Int} {P : List Int} {x : Int} (hP : ok5 P) (hW : ∀ k, 0 ≤ W k ∧ W k ≤ 1000) (hx : x = cd W P) (hn : 0 ≤ S 1 0 ∧ S 1 0 ≤ 20) (ha : ∀ k, k ∈ P → k < S 1 0) (h5 : ∀ k, 0 ≤ S 5 k ∧ S 5 k ≤ 1000) (C : CX p s m args c b_G_secondOf 6 "NextPaths$Graph" TT D cls (tyz ki kz kl kq)) (hr : meth.sig.returnType = (some .int)) (hk : meth.locks = false) : ∀ (k i : Nat), i ≤ P.length → P.length ≤ i + k → GG p l e rm_G_secondOf s m args below meth c D cls (adr (wX a ki kz kl kq S)) 6 0 0 (MQ below (QcW D cls (wX a ki kz kl kq) S (pI fun r S' => S' = S ∧ r = wp (S 5) P)) args s 0 0 (adr (wX a ki kz kl kq S))) (wX a ki kz kl kq) S [(4, .int (iI (i : Int))), (3, .int (iI (wp (S 5) (P.take i)))), (0, .ref (a 1)), (1, .long (lI x))] 5 [] := by
  intro k
  induction k with
  | zero =>
    intro i hi hk0
    have h7 := hP.1
    have hxb : 0 ≤ x ∧ x < 2251799813685248 := by rw [hx]; exact cd_bd hW hP
    refine g_iload C d_G_secondOf_5 rfl rfl ?_
    refine g_lload_n C d_G_secondOf_7 rfl rfl ?_
    refine g_runI (wX_fix a ki kz kl kq) rfl (rn_SN C (m_C_lengthIn hxb) 1 kc_C_lengthIn k_G_57 ks_C_lengthIn kn_C hy_C_lengthIn ⟨rfl, rfl⟩ ⟨by decide, by decide⟩ ⟨Nat.le_refl _, Nat.le_refl _⟩ rfl rfl (Nat.le_of_ble_eq_true rfl) d_G_secondOf_8) (fun r S1 hp => ?_)
    obtain ⟨hS1, rfl⟩ := hp
    refine GG.at hS1 ?_
    refine g_v (z' := (P.length : Int)) (by rw [hx]; exact cd_l hP) ?_
    refine g_icmp_ge (tgt := 47) C d_G_secondOf_11 (by decide) rfl (by omega) (by omega) (fun h11 => ?_) (fun h11 => ?_)
    · refine g_iload_n C d_G_secondOf_47 rfl rfl ?_
      refine g_iret C hr hk d_G_secondOf_48 ⟨_, rfl, ?_⟩
      have hi2 : i = P.length := by omega
      subst hi2
      rw [List.take_length]
      exact ⟨rfl, rfl⟩
    · exact absurd h11 (by omega)
  | succ k ih =>
    intro i hi hk0
    have h7 := hP.1
    have hxb : 0 ≤ x ∧ x < 2251799813685248 := by rw [hx]; exact cd_bd hW hP
    refine g_iload C d_G_secondOf_5 rfl rfl ?_
    refine g_lload_n C d_G_secondOf_7 rfl rfl ?_
    refine g_runI (wX_fix a ki kz kl kq) rfl (rn_SN C (m_C_lengthIn hxb) 1 kc_C_lengthIn k_G_57 ks_C_lengthIn kn_C hy_C_lengthIn ⟨rfl, rfl⟩ ⟨by decide, by decide⟩ ⟨Nat.le_refl _, Nat.le_refl _⟩ rfl rfl (Nat.le_of_ble_eq_true rfl) d_G_secondOf_8) (fun r S1 hp => ?_)
    obtain ⟨hS1, rfl⟩ := hp
    refine GG.at hS1 ?_
    refine g_v (z' := (P.length : Int)) (by rw [hx]; exact cd_l hP) ?_
    refine g_icmp_ge (tgt := 47) C d_G_secondOf_11 (by decide) rfl (by omega) (by omega) (fun h11 => ?_) (fun h11 => ?_)
    · refine g_iload_n C d_G_secondOf_47 rfl rfl ?_
      refine g_iret C hr hk d_G_secondOf_48 ⟨_, rfl, ?_⟩
      have hi2 : i = P.length := by omega
      subst hi2
      rw [List.take_length]
      exact ⟨rfl, rfl⟩
    · have hlt : i < P.length := by omega
      have hk32 := hP.2 (P.getD i 0) (by simp [hlt])
      have hkn := ha (P.getD i 0) (by simp [hlt])
      refine g_lload_n C d_G_secondOf_14 rfl rfl ?_
      refine g_iload C d_G_secondOf_15 rfl rfl ?_
      refine g_runI (wX_fix a ki kz kl kq) rfl (rn_SN C (m_C_arcIn hxb (by omega)) 2 kc_C_arcIn k_G_63 ks_C_arcIn kn_C hy_C_arcIn ⟨rfl, rfl⟩ ⟨by decide, by decide⟩ ⟨Nat.le_refl _, Nat.le_refl _⟩ rfl rfl (Nat.le_of_ble_eq_true rfl) d_G_secondOf_17) (fun r S1 hp => ?_)
      obtain ⟨hS1, rfl⟩ := hp
      refine GG.at hS1 ?_
      refine g_v (z' := P.getD i 0) (by rw [hx]; exact cd_a hP i hlt) ?_
      refine g_nm (fun k1 e_k1 => ?_)
      refine g_istore (lv' := [(5, .int (iI k1)), (4, .int (iI (i : Int))), (3, .int (iI (wp (S 5) (P.take i)))), (0, .ref (a 1)), (1, .long (lI x))]) C d_G_secondOf_20 (by decide) rfl rfl ?_
      refine g_aload_n C d_G_secondOf_22 rfl rfl ?_
      refine g_iload C d_G_secondOf_23 rfl rfl ?_
      refine g_runI (wX_fix a ki kz kl kq) rfl (rn_V C (m_G_isArc (by omega) hn) 1 1 wX_1 rfl rfl kc_G_isArc k_G_67 ki_G_isArc kx_G_isArc kn_G hy_G_isArc ⟨rfl, rfl⟩ ⟨by decide, by decide⟩ ⟨Nat.le_refl _, Nat.le_refl _⟩ rfl rfl (Nat.le_of_ble_eq_true rfl) d_G_secondOf_25) (fun r S1 hp => ?_)
      obtain ⟨hS1, hp⟩ := hp
      refine GG.at hS1 ?_
      refine g_if_eq (tgt := 41) C d_G_secondOf_28 (by decide) rfl (by omega) (fun h28 => ?_) (fun h28 => ?_)
      · exact absurd h28 (by omega)
      · have hs5 := h5 k1
        have hwb := wp_bd h5 (P.take i)
        refine g_iload_n C d_G_secondOf_31 rfl rfl ?_
        refine g_aload_n C d_G_secondOf_32 rfl rfl ?_
        refine g_get C 1 5 i_G wX_1 rfl (by decide) k_G_21 rfl rfl d_G_secondOf_33 rfl ?_
        refine g_iload C d_G_secondOf_36 rfl rfl ?_
        refine g_iald C 5 0 wX_5 rfl (by omega) (by omega) (by decide) d_G_secondOf_38 rfl ?_
        refine g_iadd C d_G_secondOf_39 rfl rfl ?_
        refine g_nm (fun t2 e_t2 => ?_)
        refine g_istore_n (lv' := [(3, .int (iI t2)), (5, .int (iI k1)), (4, .int (iI (i : Int))), (0, .ref (a 1)), (1, .long (lI x))]) C d_G_secondOf_40 (by decide) rfl rfl ?_
        obtain ⟨i2, e_i2⟩ : ∃ z : Int, z = (i : Int) + 1 := ⟨_, rfl⟩
        refine g_iinc (q := 2) (z := i2) (lv' := [(4, .int (iI i2)), (3, .int (iI t2)), (5, .int (iI k1)), (0, .ref (a 1)), (1, .long (lI x))]) C d_G_secondOf_41 rfl e_i2.symm (by decide) rfl rfl ?_
        refine g_goto (tgt := 5) C d_G_secondOf_44 (by decide) ?_
        refine GG.lvs (lv' := [(4, .int (iI ((i + 1 : Nat) : Int))), (3, .int (iI (wp (S 5) (P.take (i + 1))))), (0, .ref (a 1)), (1, .long (lI x))]) ?_ (ih (i + 1) (by omega) (by omega))
        have q1 : i2 = ((i + 1 : Nat) : Int) := by omega
        have q2 : t2 = wp (S 5) (P.take (i + 1)) := by rw [e_t2, take_s hlt, wp_app, e_k1]; simp [wp]
        subst q1; subst q2
        simp [lk]

set_option maxRecDepth 100000 in
set_option maxHeartbeats 4000000 in
theorem m_G_secondOf {l : Launch} {D : va_G} {a : Nat → Nat} {ki kz kl kq : ClassId} {S : Nat → Int → Int}  {W : Int → Int} {P : List Int} {x : Int} (hP : ok5 P) (hW : ∀ k, 0 ≤ W k ∧ W k ≤ 1000) (hx : x = cd W P) (hn : 0 ≤ S 1 0 ∧ S 1 0 ≤ 20) (ha : ∀ k, k ∈ P → k < S 1 0) (h5 : ∀ k, 0 ≤ S 5 k ∧ S 5 k ≤ 1000) : MX l D a ki kz kl kq y_G_secondOf b_G_secondOf 6 (some .int) rm_G_secondOf [.ref (a 1), .long (lI x)] S (pI fun r S' => S' = S ∧ r = wp (S 5) P) := by
  refine MM.go b_G_secondOf 6 (some .int) "NextPaths$Graph" [(0, .ref (a 1)), (1, .long (lI x))] (by decide) rfl rfl (Nat.le_of_ble_eq_true rfl) ?_
  intro p e s m args below meth c C hr hk
  refine g_iconst (z := 0) C d_G_secondOf_0 rfl rfl ?_
  refine g_nm (fun t0 e_t0 => ?_)
  refine g_istore_n (lv' := [(3, .int (iI t0)), (0, .ref (a 1)), (1, .long (lI x))]) C d_G_secondOf_1 (by decide) rfl rfl ?_
  refine g_iconst (z := 0) C d_G_secondOf_2 rfl rfl ?_
  refine g_nm (fun i0 e_i0 => ?_)
  refine g_istore (lv' := [(4, .int (iI i0)), (3, .int (iI t0)), (0, .ref (a 1)), (1, .long (lI x))]) C d_G_secondOf_3 (by decide) rfl rfl ?_
  refine GG.lvs (lv' := [(4, .int (iI ((0 : Nat) : Int))), (3, .int (iI (wp (S 5) (P.take 0)))), (0, .ref (a 1)), (1, .long (lI x))]) ?_ (lo_G_secondOf hP hW hx hn ha h5 C hr hk P.length 0 (by omega) (by omega))
  subst e_t0; subst e_i0
  simp [lk, wp]

/-- P is the path that was told, with its weights -/
def TL (S : Nat → Int → Int) (P : List Int) (w s2 : Int) : Prop := S 31 0 = P.length ∧ S 32 0 = w ∧ S 33 0 = s2 ∧ ∀ i : Nat, i < P.length → S 30 (i : Int) = P.getD i 0

set_option maxRecDepth 100000 in
set_option maxHeartbeats 4000000 in
theorem lo_T_tell {l : Launch} {D : va_G} {a : Nat → Nat} {ki kz kl kq : ClassId} {p : Program} {e : Env} {s : State} {m : MethodId} {args : Array Value} {below : List Frame} {meth : Method} {c : Code} {S0 : Nat → Int → Int} {P : List Int} {x : Int} (hP : ok5 P) (hW : ∀ k, 0 ≤ S0 4 k ∧ S0 4 k ≤ 1000) (hx : x = cd (S0 4) P) (hn : 0 ≤ S0 1 0 ∧ S0 1 0 ≤ 20) (ha : ∀ k, k ∈ P → k < S0 1 0) (h5 : ∀ k, 0 ≤ S0 5 k ∧ S0 5 k ≤ 1000) (C : CX p s m args c b_T_tell 5 "NextPaths$ToldPath" TT D cls (tyz ki kz kl kq)) (hr : meth.sig.returnType = (some .int)) (hk : meth.locks = false) : ∀ (k i : Nat) (S : Nat → Int → Int), i ≤ P.length → P.length ≤ i + k → (eqx [30, 31, 32, 33] S0 S ∧ S 31 0 = P.length ∧ S 32 0 = wp (S0 4) P ∧ S 33 0 = wp (S0 5) P ∧ ∀ j : Nat, j < i → S 30 (j : Int) = P.getD j 0) → GG p l e rm_T_tell s m args below meth c D cls (adr (wX a ki kz kl kq S0)) 5 0 0 (MQ below (QcW D cls (wX a ki kz kl kq) S0 (pI fun r S' => eqx [30, 31, 32, 33] S0 S' ∧ r = P.length ∧ TL S' P (wp (S0 4) P) (wp (S0 5) P))) args s 0 0 (adr (wX a ki kz kl kq S0))) (wX a ki kz kl kq) S [(4, .int (iI (i : Int))), (0, .ref (a 22)), (1, .ref (a 1)), (2, .long (lI x))] 28 [] := by
  intro k
  induction k with
  | zero =>
    intro i S hi hk0 hI
    have h7 := hP.1
    have hxb : 0 ≤ x ∧ x < 2251799813685248 := by rw [hx]; exact cd_bd hW hP
    refine g_iload C d_T_tell_28 rfl rfl ?_
    refine g_aload_n C d_T_tell_30 rfl rfl ?_
    refine g_get C 22 1 i_T wX_22 rfl (by decide) k_T_15 rfl rfl d_T_tell_31 rfl ?_
    refine g_v (z' := (P.length : Int)) hI.2.1 ?_
    refine g_icmp_ge (tgt := 56) C d_T_tell_34 (by decide) rfl (by omega) (by omega) (fun h34 => ?_) (fun h34 => ?_)
    · refine g_aload_n C d_T_tell_56 rfl rfl ?_
      refine g_get C 22 1 i_T wX_22 rfl (by decide) k_T_15 rfl rfl d_T_tell_57 rfl ?_
      refine g_v (z' := (P.length : Int)) hI.2.1 ?_
      refine g_iret C hr hk d_T_tell_60 ⟨_, rfl, ?_⟩
      have hi2 : i = P.length := by omega
      subst hi2
      exact ⟨hI.1, rfl, hI.2.1, hI.2.2.1, hI.2.2.2.1, hI.2.2.2.2⟩
    · exact absurd h34 (by omega)
  | succ k ih =>
    intro i S hi hk0 hI
    have h7 := hP.1
    have hxb : 0 ≤ x ∧ x < 2251799813685248 := by rw [hx]; exact cd_bd hW hP
    refine g_iload C d_T_tell_28 rfl rfl ?_
    refine g_aload_n C d_T_tell_30 rfl rfl ?_
    refine g_get C 22 1 i_T wX_22 rfl (by decide) k_T_15 rfl rfl d_T_tell_31 rfl ?_
    refine g_v (z' := (P.length : Int)) hI.2.1 ?_
    refine g_icmp_ge (tgt := 56) C d_T_tell_34 (by decide) rfl (by omega) (by omega) (fun h34 => ?_) (fun h34 => ?_)
    · refine g_aload_n C d_T_tell_56 rfl rfl ?_
      refine g_get C 22 1 i_T wX_22 rfl (by decide) k_T_15 rfl rfl d_T_tell_57 rfl ?_
      refine g_v (z' := (P.length : Int)) hI.2.1 ?_
      refine g_iret C hr hk d_T_tell_60 ⟨_, rfl, ?_⟩
      have hi2 : i = P.length := by omega
      subst hi2
      exact ⟨hI.1, rfl, hI.2.1, hI.2.2.1, hI.2.2.2.1, hI.2.2.2.2⟩
    · have hlt : i < P.length := by omega
      refine g_aload_n C d_T_tell_37 rfl rfl ?_
      refine g_get C 22 0 i_T wX_22 rfl (by decide) k_T_9 rfl rfl d_T_tell_38 rfl ?_
      refine g_iload C d_T_tell_41 rfl rfl ?_
      refine g_lload_n C d_T_tell_43 rfl rfl ?_
      refine g_iload C d_T_tell_44 rfl rfl ?_
      refine g_runI (wX_fix a ki kz kl kq) rfl (rn_SN C (m_C_arcIn hxb (by omega)) 2 kc_C_arcIn k_T_39 ks_C_arcIn kn_C hy_C_arcIn ⟨rfl, rfl⟩ ⟨by decide, by decide⟩ ⟨Nat.le_refl _, Nat.le_refl _⟩ rfl rfl (Nat.le_of_ble_eq_true rfl) d_T_tell_46) (fun r S1 hp => ?_)
      obtain ⟨hS1, rfl⟩ := hp
      refine GG.at hS1 ?_
      refine g_v (z' := P.getD i 0) (by rw [hx]; exact cd_a hP i hlt) ?_
      refine g_iast C 23 0 wX_23 rfl (by omega) (by omega) (by decide) wX_s23 d_T_tell_49 rfl ?_
      obtain ⟨i2, e_i2⟩ : ∃ z : Int, z = (i : Int) + 1 := ⟨_, rfl⟩
      refine g_iinc (q := 0) (z := i2) (lv' := [(4, .int (iI i2)), (0, .ref (a 22)), (1, .ref (a 1)), (2, .long (lI x))]) C d_T_tell_50 rfl e_i2.symm (by decide) rfl rfl ?_
      refine g_goto (tgt := 28) C d_T_tell_53 (by decide) ?_
      refine GG.lvs (lv' := [(4, .int (iI ((i + 1 : Nat) : Int))), (0, .ref (a 22)), (1, .ref (a 1)), (2, .long (lI x))]) (by rw [show i2 = ((i + 1 : Nat) : Int) by omega]; simp [lk]) (ih (i + 1) _ (by omega) (by omega) ⟨eqx_us hI.1 (by simp), by rw [us_n (by decide)]; exact hI.2.1, by rw [us_n (by decide)]; exact hI.2.2.1, by rw [us_n (by decide)]; exact hI.2.2.2.1, fun j hj => ?_⟩)
      rw [us_s]
      by_cases e : j = i
      · subst e; rw [up_s]
      · rw [up_n (by omega)]; exact hI.2.2.2.2 j (by omega)

set_option maxRecDepth 100000 in
set_option maxHeartbeats 4000000 in
theorem m_T_tell {l : Launch} {D : va_G} {a : Nat → Nat} {ki kz kl kq : ClassId} {S : Nat → Int → Int}  {P : List Int} {x : Int} (hP : ok5 P) (hW : ∀ k, 0 ≤ S 4 k ∧ S 4 k ≤ 1000) (hx : x = cd (S 4) P) (hn : 0 ≤ S 1 0 ∧ S 1 0 ≤ 20) (ha : ∀ k, k ∈ P → k < S 1 0) (h5 : ∀ k, 0 ≤ S 5 k ∧ S 5 k ≤ 1000) : MX l D a ki kz kl kq y_T_tell b_T_tell 5 (some .int) rm_T_tell [.ref (a 22), .ref (a 1), .long (lI x)] S (pI fun r S' => eqx [30, 31, 32, 33] S S' ∧ r = P.length ∧ TL S' P (wp (S 4) P) (wp (S 5) P)) := by
  refine MM.go b_T_tell 5 (some .int) "NextPaths$ToldPath" [(0, .ref (a 22)), (1, .ref (a 1)), (2, .long (lI x))] (by decide) rfl rfl (Nat.le_of_ble_eq_true rfl) ?_
  intro p e s m args below meth c C hr hk
  have hxb : 0 ≤ x ∧ x < 2251799813685248 := by rw [hx]; exact cd_bd hW hP
  refine g_aload_n C d_T_tell_0 rfl rfl ?_
  refine g_lload_n C d_T_tell_1 rfl rfl ?_
  refine g_runI (wX_fix a ki kz kl kq) rfl (rn_SN C (m_C_lengthIn hxb) 1 kc_C_lengthIn k_T_19 ks_C_lengthIn kn_C hy_C_lengthIn ⟨rfl, rfl⟩ ⟨by decide, by decide⟩ ⟨Nat.le_refl _, Nat.le_refl _⟩ rfl rfl (Nat.le_of_ble_eq_true rfl) d_T_tell_2) (fun r S1 hp => ?_)
  obtain ⟨hS1, rfl⟩ := hp
  refine GG.at hS1 ?_
  refine g_v (z' := (P.length : Int)) (by rw [hx]; exact cd_l hP) ?_
  refine g_put (ty := .int) C 22 1 ty_T i_T ty_T_ok n_T wX_22 rfl (by decide) k_T_15 rfl rfl (by decide +kernel) rfl rfl (Nat.le_of_ble_eq_true rfl) wX_p22_1 d_T_tell_5 rfl ?_
  refine g_aload_n C d_T_tell_8 rfl rfl ?_
  refine g_lload_n C d_T_tell_9 rfl rfl ?_
  refine g_runI (wX_fix a ki kz kl kq) rfl (rn_SN C (m_C_weightIn hxb) 1 kc_C_weightIn k_T_25 ks_C_weightIn kn_C hy_C_weightIn ⟨rfl, rfl⟩ ⟨by decide, by decide⟩ ⟨Nat.le_refl _, Nat.le_refl _⟩ rfl rfl (Nat.le_of_ble_eq_true rfl) d_T_tell_10) (fun r S1 hp => ?_)
  obtain ⟨hS1, rfl⟩ := hp
  refine GG.at hS1 ?_
  refine g_v (z' := wp (S 4) P) (by rw [hx]; exact cd_w hP) ?_
  refine g_put (ty := .int) C 22 2 ty_T i_T ty_T_ok n_T wX_22 rfl (by decide) k_T_28 rfl rfl (by decide +kernel) rfl rfl (Nat.le_of_ble_eq_true rfl) wX_p22_2 d_T_tell_13 rfl ?_
  refine g_aload_n C d_T_tell_16 rfl rfl ?_
  refine g_aload_n C d_T_tell_17 rfl rfl ?_
  refine g_lload_n C d_T_tell_18 rfl rfl ?_
  refine g_runI (wX_fix a ki kz kl kq) rfl (rn_VN C (m_G_secondOf (W := S 4) hP hW hx hn ha h5) 1 1 wX_1 rfl rfl kc_G_secondOf k_T_31 ki_G_secondOf kx_G_secondOf kn_G hy_G_secondOf ⟨rfl, rfl⟩ ⟨by decide, by decide⟩ ⟨Nat.le_refl _, Nat.le_refl _⟩ rfl rfl (Nat.le_of_ble_eq_true rfl) d_T_tell_19) (fun r S1 hp => ?_)
  obtain ⟨hS1, rfl⟩ := hp
  refine GG.at hS1 ?_
  refine g_v (z' := wp (S 5) P) rfl ?_
  refine g_put (ty := .int) C 22 3 ty_T i_T ty_T_ok n_T wX_22 rfl (by decide) k_T_36 rfl rfl (by decide +kernel) rfl rfl (Nat.le_of_ble_eq_true rfl) wX_p22_3 d_T_tell_22 rfl ?_
  refine g_iconst (z := 0) C d_T_tell_25 rfl rfl ?_
  refine g_nm (fun i0 e_i0 => ?_)
  refine g_istore (lv' := [(4, .int (iI i0)), (0, .ref (a 22)), (1, .ref (a 1)), (2, .long (lI x))]) C d_T_tell_26 (by decide) rfl rfl ?_
  subst e_i0
  refine lo_T_tell hP hW hx hn ha h5 C hr hk P.length 0 _ (by omega) (by omega) ⟨eqx_us (eqx_us (eqx_us eqx_rf (by simp)) (by simp)) (by simp), rfl, rfl, rfl, fun j hj => by omega⟩
end
section
/-! the class: edges, and the least ways over them -/
/-- the edges as the arrays hold them: E of them -/
def edS (S : Nat → Int → Int) (E : Nat) (p : Int → Int) : Prop := S 27 0 = E ∧ ed E (S 21) (S 22) (S 23) (S 24) p ∧ (0 ≤ S 28 0 ∧ S 28 0 < 16) ∧ ∀ g : Int, 0 ≤ g → g < E → 0 ≤ S 24 g ∧ S 24 g ≤ 20
abbrev saS (S : Nat → Int → Int) (g : Int) : Prop := sa (S 21) (S 22) (S 23) (S 24) (S 25) g

set_option maxRecDepth 100000 in
set_option maxHeartbeats 4000000 in
theorem m_F_entry {l : Launch} {D : va_G} {a : Nat → Nat} {ki kz kl kq : ClassId} {S : Nat → Int → Int} {z : Int}  : MX l D a ki kz kl kq y_F_entry b_F_entry 1 (some .int) rm_F_entry [.int (iI z)] S (pI fun r S' => S' = S ∧ r = 2 * z) := by
  refine MM.go b_F_entry 1 (some .int) "NextPaths$Flow" [(0, .int (iI z))] (by decide) rfl rfl (Nat.le_of_ble_eq_true rfl) ?_
  intro p e s m args below meth c C hr hk
  refine g_iconst (z := 2) C d_F_entry_0 rfl rfl ?_
  refine g_iload_n C d_F_entry_1 rfl rfl ?_
  refine g_imul C d_F_entry_2 rfl rfl ?_
  refine g_iret C hr hk d_F_entry_3 ⟨_, rfl, ?_⟩
  exact ⟨rfl, rfl⟩

set_option maxRecDepth 100000 in
set_option maxHeartbeats 4000000 in
theorem m_F_exit {l : Launch} {D : va_G} {a : Nat → Nat} {ki kz kl kq : ClassId} {S : Nat → Int → Int} {z : Int}  : MX l D a ki kz kl kq y_F_exit b_F_exit 1 (some .int) rm_F_exit [.int (iI z)] S (pI fun r S' => S' = S ∧ r = 2 * z + 1) := by
  refine MM.go b_F_exit 1 (some .int) "NextPaths$Flow" [(0, .int (iI z))] (by decide) rfl rfl (Nat.le_of_ble_eq_true rfl) ?_
  intro p e s m args below meth c C hr hk
  refine g_iconst (z := 2) C d_F_exit_0 rfl rfl ?_
  refine g_iload_n C d_F_exit_1 rfl rfl ?_
  refine g_imul C d_F_exit_2 rfl rfl ?_
  refine g_iconst (z := 1) C d_F_exit_3 rfl rfl ?_
  refine g_iadd C d_F_exit_4 rfl rfl ?_
  refine g_iret C hr hk d_F_exit_5 ⟨_, rfl, ?_⟩
  exact ⟨rfl, rfl⟩

set_option maxRecDepth 100000 in
set_option maxHeartbeats 4000000 in
theorem m_F_setEdge {l : Launch} {D : va_G} {a : Nat → Nat} {ki kz kl kq : ClassId} {S : Nat → Int → Int} {g z1 z2 z3 z4 : Int} (hg : 0 ≤ g ∧ g < 56) : MX l D a ki kz kl kq y_F_setEdge b_F_setEdge 6 none rm_F_setEdge [.ref (a 27), .int (iI g), .int (iI z1), .int (iI z2), .int (iI z3), .int (iI z4)] S (pV fun S' => S' = us (us (us (us S 21 g z1) 22 g z2) 23 g z3) 24 g z4) := by
  refine MM.go b_F_setEdge 6 none "NextPaths$Flow" [(0, .ref (a 27)), (1, .int (iI g)), (2, .int (iI z1)), (3, .int (iI z2)), (4, .int (iI z3)), (5, .int (iI z4))] (by decide) rfl rfl (Nat.le_of_ble_eq_true rfl) ?_
  intro p e s m args below meth c C hr hk
  refine g_aload_n C d_F_setEdge_0 rfl rfl ?_
  refine g_get C 27 1 i_F wX_27 rfl (by decide) k_F_11 rfl rfl d_F_setEdge_1 rfl ?_
  refine g_iload_n C d_F_setEdge_4 rfl rfl ?_
  refine g_iload_n C d_F_setEdge_5 rfl rfl ?_
  refine g_iast C 28 0 wX_28 rfl (by omega) (by omega) (by decide) wX_s28 d_F_setEdge_6 rfl ?_
  refine g_aload_n C d_F_setEdge_7 rfl rfl ?_
  refine g_get C 27 2 i_F wX_27 rfl (by decide) k_F_15 rfl rfl d_F_setEdge_8 rfl ?_
  refine g_iload_n C d_F_setEdge_11 rfl rfl ?_
  refine g_iload_n C d_F_setEdge_12 rfl rfl ?_
  refine g_iast C 29 0 wX_29 rfl (by omega) (by omega) (by decide) wX_s29 d_F_setEdge_13 rfl ?_
  refine g_aload_n C d_F_setEdge_14 rfl rfl ?_
  refine g_get C 27 3 i_F wX_27 rfl (by decide) k_F_18 rfl rfl d_F_setEdge_15 rfl ?_
  refine g_iload_n C d_F_setEdge_18 rfl rfl ?_
  refine g_iload C d_F_setEdge_19 rfl rfl ?_
  refine g_iast C 30 0 wX_30 rfl (by omega) (by omega) (by decide) wX_s30 d_F_setEdge_21 rfl ?_
  refine g_aload_n C d_F_setEdge_22 rfl rfl ?_
  refine g_get C 27 4 i_F wX_27 rfl (by decide) k_F_21 rfl rfl d_F_setEdge_23 rfl ?_
  refine g_iload_n C d_F_setEdge_26 rfl rfl ?_
  refine g_iload C d_F_setEdge_27 rfl rfl ?_
  refine g_iast C 31 0 wX_31 rfl (by omega) (by omega) (by decide) wX_s31 d_F_setEdge_29 rfl ?_
  refine g_vret C hr hk d_F_setEdge_30 ⟨rfl, ?_⟩
  rfl

/-- one edge more, and its way back -/
def adE (S : Nat → Int → Int) (g z1 z2 z3 z4 : Int) : Nat → Int → Int := us (us (us (us (us (us (us (us (us S 21 g z1) 22 g z2) 23 g z3) 24 g z4) 21 (g + 1) z2) 22 (g + 1) z1) 23 (g + 1) (-z3)) 24 (g + 1) 0) 27 0 (g + 2)

set_option maxRecDepth 100000 in
set_option maxHeartbeats 4000000 in
theorem m_F_addEdge {l : Launch} {D : va_G} {a : Nat → Nat} {ki kz kl kq : ClassId} {S : Nat → Int → Int} {g z1 z2 z3 z4 : Int} (hs : S 27 0 = g) (hg : 0 ≤ g ∧ g + 2 ≤ 56) : MX l D a ki kz kl kq y_F_addEdge b_F_addEdge 5 none rm_F_addEdge [.ref (a 27), .int (iI z1), .int (iI z2), .int (iI z3), .int (iI z4)] S (pV fun S' => S' = adE S g z1 z2 z3 z4) := by
  refine MM.go b_F_addEdge 5 none "NextPaths$Flow" [(0, .ref (a 27)), (1, .int (iI z1)), (2, .int (iI z2)), (3, .int (iI z3)), (4, .int (iI z4))] (by decide) rfl rfl (Nat.le_of_ble_eq_true rfl) ?_
  intro p e s m args below meth c C hr hk
  refine g_aload_n C d_F_addEdge_0 rfl rfl ?_
  refine g_get C 27 7 i_F wX_27 rfl (by decide) k_F_34 rfl rfl d_F_addEdge_1 rfl ?_
  refine g_v (z' := g) hs ?_
  refine g_iconst (z := 2) C d_F_addEdge_4 rfl rfl ?_
  refine g_iadd C d_F_addEdge_5 rfl rfl ?_
  refine g_bipush (z := 56) C d_F_addEdge_6 rfl (by decide) ?_
  refine g_icmp_le (tgt := 12) C d_F_addEdge_8 (by decide) rfl (by omega) (by omega) (fun h8 => ?_) (fun h8 => ?_)
  · refine g_aload_n C d_F_addEdge_12 rfl rfl ?_
    refine g_aload_n C d_F_addEdge_13 rfl rfl ?_
    refine g_get C 27 7 i_F wX_27 rfl (by decide) k_F_34 rfl rfl d_F_addEdge_14 rfl ?_
    refine g_v (z' := g) hs ?_
    refine g_iload_n C d_F_addEdge_17 rfl rfl ?_
    refine g_iload_n C d_F_addEdge_18 rfl rfl ?_
    refine g_iload_n C d_F_addEdge_19 rfl rfl ?_
    refine g_iload C d_F_addEdge_20 rfl rfl ?_
    refine g_runV (wX_fix a ki kz kl kq) rfl (rn_V C (m_F_setEdge (by omega)) 27 5 wX_27 rfl rfl kc_F_setEdge k_F_76 ki_F_setEdge kx_F_setEdge kn_F hy_F_setEdge ⟨rfl, rfl⟩ ⟨by decide, by decide⟩ ⟨Nat.le_refl _, Nat.le_refl _⟩ rfl rfl (Nat.le_of_ble_eq_true rfl) d_F_addEdge_22) (fun S1 hp => ?_)
    subst hp
    refine g_aload_n C d_F_addEdge_25 rfl rfl ?_
    refine g_aload_n C d_F_addEdge_26 rfl rfl ?_
    refine g_get C 27 7 i_F wX_27 rfl (by decide) k_F_34 rfl rfl d_F_addEdge_27 rfl ?_
    refine g_v (z' := g) (by rw [us_n (by decide), us_n (by decide), us_n (by decide), us_n (by decide)]; exact hs) ?_
    refine g_iconst (z := 1) C d_F_addEdge_30 rfl rfl ?_
    refine g_iadd C d_F_addEdge_31 rfl rfl ?_
    refine g_iload_n C d_F_addEdge_32 rfl rfl ?_
    refine g_iload_n C d_F_addEdge_33 rfl rfl ?_
    refine g_iload_n C d_F_addEdge_34 rfl rfl ?_
    refine g_ineg C d_F_addEdge_35 rfl rfl ?_
    refine g_iconst (z := 0) C d_F_addEdge_36 rfl rfl ?_
    refine g_runV (wX_fix a ki kz kl kq) rfl (rn_V C (m_F_setEdge (by omega)) 27 5 wX_27 rfl rfl kc_F_setEdge k_F_76 ki_F_setEdge kx_F_setEdge kn_F hy_F_setEdge ⟨rfl, rfl⟩ ⟨by decide, by decide⟩ ⟨Nat.le_refl _, Nat.le_refl _⟩ rfl rfl (Nat.le_of_ble_eq_true rfl) d_F_addEdge_37) (fun S1 hp => ?_)
    subst hp
    refine g_aload_n C d_F_addEdge_40 rfl rfl ?_
    refine g_dup C d_F_addEdge_41 rfl rfl ?_
    refine g_get C 27 7 i_F wX_27 rfl (by decide) k_F_34 rfl rfl d_F_addEdge_42 rfl ?_
    refine g_v (z' := g) (by rw [us_n (by decide), us_n (by decide), us_n (by decide), us_n (by decide), us_n (by decide), us_n (by decide), us_n (by decide), us_n (by decide)]; exact hs) ?_
    refine g_iconst (z := 2) C d_F_addEdge_45 rfl rfl ?_
    refine g_iadd C d_F_addEdge_46 rfl rfl ?_
    refine g_put (ty := .int) C 27 7 ty_F i_F ty_F_ok n_F wX_27 rfl (by decide) k_F_34 rfl rfl (by decide +kernel) rfl rfl (Nat.le_of_ble_eq_true rfl) wX_p27_7 d_F_addEdge_47 rfl ?_
    refine g_vret C hr hk d_F_addEdge_50 ⟨rfl, ?_⟩
    rfl
  · exact absurd h8 (by omega)

set_option maxRecDepth 100000 in
set_option maxHeartbeats 4000000 in
theorem m_F_tryEdge {l : Launch} {D : va_G} {a : Nat → Nat} {ki kz kl kq : ClassId} {S : Nat → Int → Int} {g t : Int} {E : Nat} {q : Int → Int} (hE : edS S E q) (hg : 0 ≤ g ∧ g < E) (hb : bd_ (S 25) t) (ht : t < 900) : MX l D a ki kz kl kq y_F_tryEdge b_F_tryEdge 4 (some .boolean) rm_F_tryEdge [.ref (a 27), .int (iI g)] S (pI fun r S' => (r = 0 ∧ S' = S ∧ saS S g) ∨ (r = 1 ∧ ¬ saS S g ∧ S' = us (us S 25 (S 22 g) (S 25 (S 21 g) + S 23 g)) 26 (S 22 g) g)) := by
  refine MM.go b_F_tryEdge 4 (some .boolean) "NextPaths$Flow" [(0, .ref (a 27)), (1, .int (iI g))] (by decide) rfl rfl (Nat.le_of_ble_eq_true rfl) ?_
  intro p e s m args below meth c C hr hk
  obtain ⟨k1, k2, k3⟩ := hE
  have k4 := k2.2.1 g hg.1 hg.2
  have k5 := k3.2 g hg.1 hg.2
  have k6 := k2.1
  have k7 := hb (S 21 g) (by omega) (by omega)
  have k8 := hb (S 22 g) (by omega) (by omega)
  unfold far at k7 k8
  refine g_aload_n C d_F_tryEdge_0 rfl rfl ?_
  refine g_get C 27 1 i_F wX_27 rfl (by decide) k_F_11 rfl rfl d_F_tryEdge_1 rfl ?_
  refine g_iload_n C d_F_tryEdge_4 rfl rfl ?_
  refine g_iald C 28 0 wX_28 rfl (by omega) (by omega) (by decide) d_F_tryEdge_5 rfl ?_
  refine g_nm (fun u1 e_u1 => ?_)
  refine g_istore_n (lv' := [(2, .int (iI u1)), (0, .ref (a 27)), (1, .int (iI g))]) C d_F_tryEdge_6 (by decide) rfl rfl ?_
  refine g_aload_n C d_F_tryEdge_7 rfl rfl ?_
  refine g_get C 27 2 i_F wX_27 rfl (by decide) k_F_15 rfl rfl d_F_tryEdge_8 rfl ?_
  refine g_iload_n C d_F_tryEdge_11 rfl rfl ?_
  refine g_iald C 29 0 wX_29 rfl (by omega) (by omega) (by decide) d_F_tryEdge_12 rfl ?_
  refine g_nm (fun v1 e_v1 => ?_)
  refine g_istore_n (lv' := [(3, .int (iI v1)), (2, .int (iI u1)), (0, .ref (a 27)), (1, .int (iI g))]) C d_F_tryEdge_13 (by decide) rfl rfl ?_
  refine g_aload_n C d_F_tryEdge_14 rfl rfl ?_
  refine g_get C 27 4 i_F wX_27 rfl (by decide) k_F_21 rfl rfl d_F_tryEdge_15 rfl ?_
  refine g_iload_n C d_F_tryEdge_18 rfl rfl ?_
  refine g_iald C 31 0 wX_31 rfl (by omega) (by omega) (by decide) d_F_tryEdge_19 rfl ?_
  refine g_if_le (tgt := 56) C d_F_tryEdge_20 (by decide) rfl (by omega) (fun h20 => ?_) (fun h20 => ?_)
  · refine g_iconst (z := 0) C d_F_tryEdge_56 rfl rfl ?_
    refine g_zret C hr hk (by omega) d_F_tryEdge_57 ⟨_, rfl, ?_⟩
    refine Or.inl ⟨rfl, rfl, ?_⟩
    unfold saS sa far
    first
      | (left; omega)
      | (right; left; omega)
      | (right; right; omega)
  · refine g_aload_n C d_F_tryEdge_23 rfl rfl ?_
    refine g_get C 27 5 i_F wX_27 rfl (by decide) k_F_24 rfl rfl d_F_tryEdge_24 rfl ?_
    refine g_iload_n C d_F_tryEdge_27 rfl rfl ?_
    refine g_iald C 32 0 wX_32 rfl (by omega) (by omega) (by decide) d_F_tryEdge_28 rfl ?_
    refine g_v (z' := S 25 (S 21 g)) (by rw [e_u1]) ?_
    refine g_ldc (z := 1000000) C k_F_83 d_F_tryEdge_29 rfl ?_
    refine g_icmp_ge (tgt := 56) C d_F_tryEdge_31 (by decide) rfl (by omega) (by omega) (fun h31 => ?_) (fun h31 => ?_)
    · refine g_iconst (z := 0) C d_F_tryEdge_56 rfl rfl ?_
      refine g_zret C hr hk (by omega) d_F_tryEdge_57 ⟨_, rfl, ?_⟩
      refine Or.inl ⟨rfl, rfl, ?_⟩
      unfold saS sa far
      first
        | (left; omega)
        | (right; left; omega)
        | (right; right; omega)
    · refine g_aload_n C d_F_tryEdge_34 rfl rfl ?_
      refine g_get C 27 5 i_F wX_27 rfl (by decide) k_F_24 rfl rfl d_F_tryEdge_35 rfl ?_
      refine g_iload_n C d_F_tryEdge_38 rfl rfl ?_
      refine g_iald C 32 0 wX_32 rfl (by omega) (by omega) (by decide) d_F_tryEdge_39 rfl ?_
      refine g_v (z' := S 25 (S 21 g)) (by rw [e_u1]) ?_
      refine g_aload_n C d_F_tryEdge_40 rfl rfl ?_
      refine g_get C 27 3 i_F wX_27 rfl (by decide) k_F_18 rfl rfl d_F_tryEdge_41 rfl ?_
      refine g_iload_n C d_F_tryEdge_44 rfl rfl ?_
      refine g_iald C 30 0 wX_30 rfl (by omega) (by omega) (by decide) d_F_tryEdge_45 rfl ?_
      refine g_iadd C d_F_tryEdge_46 rfl rfl ?_
      refine g_aload_n C d_F_tryEdge_47 rfl rfl ?_
      refine g_get C 27 5 i_F wX_27 rfl (by decide) k_F_24 rfl rfl d_F_tryEdge_48 rfl ?_
      refine g_iload_n C d_F_tryEdge_51 rfl rfl ?_
      refine g_iald C 32 0 wX_32 rfl (by omega) (by omega) (by decide) d_F_tryEdge_52 rfl ?_
      refine g_v (z' := S 25 (S 22 g)) (by rw [e_v1]) ?_
      refine g_icmp_lt (tgt := 58) C d_F_tryEdge_53 (by decide) rfl (by omega) (by omega) (fun h53 => ?_) (fun h53 => ?_)
      · refine g_aload_n C d_F_tryEdge_58 rfl rfl ?_
        refine g_get C 27 5 i_F wX_27 rfl (by decide) k_F_24 rfl rfl d_F_tryEdge_59 rfl ?_
        refine g_iload_n C d_F_tryEdge_62 rfl rfl ?_
        refine g_aload_n C d_F_tryEdge_63 rfl rfl ?_
        refine g_get C 27 5 i_F wX_27 rfl (by decide) k_F_24 rfl rfl d_F_tryEdge_64 rfl ?_
        refine g_iload_n C d_F_tryEdge_67 rfl rfl ?_
        refine g_iald C 32 0 wX_32 rfl (by omega) (by omega) (by decide) d_F_tryEdge_68 rfl ?_
        refine g_v (z' := S 25 (S 21 g)) (by rw [e_u1]) ?_
        refine g_aload_n C d_F_tryEdge_69 rfl rfl ?_
        refine g_get C 27 3 i_F wX_27 rfl (by decide) k_F_18 rfl rfl d_F_tryEdge_70 rfl ?_
        refine g_iload_n C d_F_tryEdge_73 rfl rfl ?_
        refine g_iald C 30 0 wX_30 rfl (by omega) (by omega) (by decide) d_F_tryEdge_74 rfl ?_
        refine g_iadd C d_F_tryEdge_75 rfl rfl ?_
        refine g_iast C 32 0 wX_32 rfl (by omega) (by omega) (by decide) wX_s32 d_F_tryEdge_76 rfl ?_
        refine g_aload_n C d_F_tryEdge_77 rfl rfl ?_
        refine g_get C 27 6 i_F wX_27 rfl (by decide) k_F_27 rfl rfl d_F_tryEdge_78 rfl ?_
        refine g_iload_n C d_F_tryEdge_81 rfl rfl ?_
        refine g_iload_n C d_F_tryEdge_82 rfl rfl ?_
        refine g_iast C 33 0 wX_33 rfl (by omega) (by omega) (by decide) wX_s33 d_F_tryEdge_83 rfl ?_
        refine g_iconst (z := 1) C d_F_tryEdge_84 rfl rfl ?_
        refine g_zret C hr hk (by omega) d_F_tryEdge_85 ⟨_, rfl, ?_⟩
        subst e_v1
        subst e_u1
        refine Or.inr ⟨rfl, fun q => ?_, rfl⟩
        unfold saS sa far at q
        omega
      · refine g_iconst (z := 0) C d_F_tryEdge_56 rfl rfl ?_
        refine g_zret C hr hk (by omega) d_F_tryEdge_57 ⟨_, rfl, ?_⟩
        refine Or.inl ⟨rfl, rfl, ?_⟩
        unfold saS sa far
        first
          | (left; omega)
          | (right; left; omega)
          | (right; right; omega)
end
section
/-! the class: measure -/
def orz (x r : Int) : Int := if x = 0 then r else 1
theorem orz_ok {x r : Int} (hx : x = 0 ∨ x = 1) (hr : r = 0 ∨ r = 1) : iI x ||| iI r = iI (orz x r) := by
  rcases hx with rfl | rfl <;> rcases hr with rfl | rfl <;> decide +kernel
def msd (S S' : Nat → Int → Int) (E : Nat) (q : Int → Int) : Prop := eqx [25, 26] S S' ∧ ∃ (wk : Int → List Int) (r : Nat) (i t : Int), t ≤ 900 ∧ BF E (S 21) (S 22) (S 23) (S 24) (S 28 0) q (S' 25) (S' 26) wk r i t ∧ ∀ g : Int, 0 ≤ g → g < E → sa (S 21) (S 22) (S 23) (S 24) (S' 25) g
/-- in round r, before edge i -/
def mso (S S' : Nat → Int → Int) (E : Nat) (q : Int → Int) (r : Nat) (i h : Int) : Prop := eqx [25, 26] S S' ∧ (∃ (wk : Int → List Int) (t : Int), t ≤ 56 * ((r : Int) - 1) + i ∧ BF E (S 21) (S 22) (S 23) (S 24) (S 28 0) q (S' 25) (S' 26) wk r i t) ∧ (h = 0 ∨ h = 1) ∧ (h = 0 → ∀ g : Int, 0 ≤ g → g < i → sa (S 21) (S 22) (S 23) (S 24) (S' 25) g)
theorem edS_eq {S S' : Nat → Int → Int} {E : Nat} {q : Int → Int} (h : eqx [25, 26] S S') (hE : edS S E q) : edS S' E q := by
  unfold edS at *
  rw [h 27 (by decide), h 21 (by decide), h 22 (by decide), h 23 (by decide), h 24 (by decide), h 28 (by decide)]
  exact hE
theorem mso_step {S S1 S2 : Nat → Int → Int} {E : Nat} {q : Int → Int} {r : Nat} {i h z : Int} (hE : edS S E q) (hr : r ≤ 16) (i0 : 0 ≤ i) (i1 : i < E) (hI : mso S S1 E q r i h) (hp : (z = 0 ∧ S2 = S1 ∧ saS S1 i) ∨ (z = 1 ∧ ¬ saS S1 i ∧ S2 = us (us S1 25 (S1 22 i) (S1 25 (S1 21 i) + S1 23 i)) 26 (S1 22 i) i)) : mso S S2 E q r (i + 1) (orz h z) := by
  obtain ⟨a1, ⟨wk, t, a2, a3⟩, a4, a5⟩ := hI
  have e21 := a1 21 (by decide)
  have e22 := a1 22 (by decide)
  have e23 := a1 23 (by decide)
  have e24 := a1 24 (by decide)
  have hE56 := hE.2.1.1
  unfold saS at hp
  rw [e21, e22, e23, e24] at hp
  rcases hp with ⟨rfl, rfl, hs⟩ | ⟨rfl, hs, rfl⟩
  · refine ⟨a1, ⟨wk, t + 1, by omega, BF_keep a3 hs⟩, ?_, fun h0 g g0 g1 => ?_⟩
    · unfold orz; split <;> omega
    · by_cases c : g = i
      · subst c; exact hs
      · refine a5 ?_ g g0 (by omega)
        unfold orz at h0
        split at h0 <;> omega
  · refine ⟨eqx_us (eqx_us a1 (by simp)) (by simp), ⟨upw wk (S 22 i) (S 22 i :: wk (S 21 i)), t + 1, by omega, ?_⟩, ?_, fun h0 => ?_⟩
    · have := BF_step hE.2.1 a3 i0 i1 (by omega) hs
      rw [us_n (by decide), us_s, us_s, us_n (by decide)]
      exact this
    · unfold orz; split <;> omega
    · unfold orz at h0; split at h0 <;> omega

set_option maxRecDepth 100000 in
set_option maxHeartbeats 4000000 in
theorem lo_F_in {l : Launch} {D : va_G} {a : Nat → Nat} {ki kz kl kq : ClassId} {p : Program} {e : Env} {s : State} {m : MethodId} {args : Array Value} {below : List Frame} {meth : Method} {c : Code} {S0 : Nat → Int → Int} {E : Nat} {q : Int → Int} (hE : edS S0 E q) {r : Nat} {rd : Int} (hr16 : r ≤ 16) (C : CX p s m args c b_F_measure 4 "NextPaths$Flow" TT D cls (tyz ki kz kl kq)) (hr : meth.sig.returnType = none) (hk : meth.locks = false) : ∀ (k : Nat) (i h : Int) (S : Nat → Int → Int), 0 ≤ i → i ≤ E → E ≤ i.toNat + k → mso S0 S E q r i h → (∀ (h : Int) (S : Nat → Int → Int), mso S0 S E q r E h → GG p l e rm_F_measure s m args below meth c D cls (adr (wX a ki kz kl kq S0)) 4 0 0 (MQ below (QcW D cls (wX a ki kz kl kq) S0 (pV fun S' => msd S0 S' E q)) args s 0 0 (adr (wX a ki kz kl kq S0))) (wX a ki kz kl kq) S [(3, .int (iI (E : Int))), (1, .int (iI h)), (2, .int (iI rd)), (0, .ref (a 27))] 59 []) → GG p l e rm_F_measure s m args below meth c D cls (adr (wX a ki kz kl kq S0)) 4 0 0 (MQ below (QcW D cls (wX a ki kz kl kq) S0 (pV fun S' => msd S0 S' E q)) args s 0 0 (adr (wX a ki kz kl kq S0))) (wX a ki kz kl kq) S [(3, .int (iI i)), (1, .int (iI h)), (2, .int (iI rd)), (0, .ref (a 27))] 37 [] := by
  intro k
  induction k with
  | zero =>
    intro i h S i0 i1 hk0 hI K
    have hE1 := edS_eq hI.1 hE
    have hE56 := hE.2.1.1
    refine g_iload_n C d_F_measure_37 rfl rfl ?_
    refine g_aload_n C d_F_measure_38 rfl rfl ?_
    refine g_get C 27 7 i_F wX_27 rfl (by decide) k_F_34 rfl rfl d_F_measure_39 rfl ?_
    refine g_v (z' := (E : Int)) hE1.1 ?_
    refine g_icmp_ge (tgt := 59) C d_F_measure_42 (by decide) rfl (by omega) (by omega) (fun h42 => ?_) (fun h42 => ?_)
    · have hi : i = E := by omega
      subst hi
      exact K h S hI
    · exact absurd h42 (by omega)
  | succ k ih =>
    intro i h S i0 i1 hk0 hI K
    have hE1 := edS_eq hI.1 hE
    have hE56 := hE.2.1.1
    refine g_iload_n C d_F_measure_37 rfl rfl ?_
    refine g_aload_n C d_F_measure_38 rfl rfl ?_
    refine g_get C 27 7 i_F wX_27 rfl (by decide) k_F_34 rfl rfl d_F_measure_39 rfl ?_
    refine g_v (z' := (E : Int)) hE1.1 ?_
    refine g_icmp_ge (tgt := 59) C d_F_measure_42 (by decide) rfl (by omega) (by omega) (fun h42 => ?_) (fun h42 => ?_)
    · have hi : i = E := by omega
      subst hi
      exact K h S hI
    · obtain ⟨wk, t, ht, hB⟩ := hI.2.1
      have hbd := hB.2.2.2.2.2.1
      have hhh := hI.2.2.1
      refine g_iload_n C d_F_measure_45 rfl rfl ?_
      refine g_aload_n C d_F_measure_46 rfl rfl ?_
      refine g_iload_n C d_F_measure_47 rfl rfl ?_
      refine g_runI (wX_fix a ki kz kl kq) rfl (rn_V C (m_F_tryEdge (t := t) hE1 (by omega) hbd (by omega)) 27 1 wX_27 rfl rfl kc_F_tryEdge k_F_90 ki_F_tryEdge kx_F_tryEdge kn_F hy_F_tryEdge ⟨rfl, rfl⟩ ⟨by decide, by decide⟩ ⟨Nat.le_refl _, Nat.le_refl _⟩ rfl rfl (Nat.le_of_ble_eq_true rfl) d_F_measure_48) (fun z S1 hp => ?_)
      refine g_ior (z := (orz h z)) C d_F_measure_51 (orz_ok hhh (by omega)) rfl ?_
      refine g_nm (fun h2 e_h2 => ?_)
      refine g_istore_n (lv' := [(1, .int (iI h2)), (3, .int (iI i)), (2, .int (iI rd)), (0, .ref (a 27))]) C d_F_measure_52 (by decide) rfl rfl ?_
      obtain ⟨i2, e_i2⟩ : ∃ z : Int, z = i + 1 := ⟨_, rfl⟩
      refine g_iinc (q := 1) (z := i2) (lv' := [(3, .int (iI i2)), (1, .int (iI h2)), (2, .int (iI rd)), (0, .ref (a 27))]) C d_F_measure_53 rfl e_i2.symm (by decide) rfl rfl ?_
      refine g_goto (tgt := 37) C d_F_measure_56 (by decide) ?_
      refine GG.lvs (lv' := [(3, .int (iI i2)), (1, .int (iI h2)), (2, .int (iI rd)), (0, .ref (a 27))]) (by simp [lk]) ?_
      subst e_h2
      subst e_i2
      exact ih _ _ _ (by omega) (by omega) (by omega) (mso_step hE (by omega) (by omega) (by omega) hI hp) K

set_option maxRecDepth 100000 in
set_option maxHeartbeats 4000000 in
theorem lo_F_out {l : Launch} {D : va_G} {a : Nat → Nat} {ki kz kl kq : ClassId} {p : Program} {e : Env} {s : State} {m : MethodId} {args : Array Value} {below : List Frame} {meth : Method} {c : Code} {S0 : Nat → Int → Int} {E : Nat} {q : Int → Int} (hE : edS S0 E q) (C : CX p s m args c b_F_measure 4 "NextPaths$Flow" TT D cls (tyz ki kz kl kq)) (hr : meth.sig.returnType = none) (hk : meth.locks = false) : ∀ (k r : Nat) (h : Int) (S : Nat → Int → Int), r ≤ 16 → 16 ≤ r + k → (eqx [25, 26] S0 S ∧ (∃ (wk : Int → List Int) (t : Int), t ≤ 56 * (r : Int) ∧ BF E (S0 21) (S0 22) (S0 23) (S0 24) (S0 28 0) q (S 25) (S 26) wk (r + 1) 0 t) ∧ (h = 0 ∨ h = 1) ∧ (h = 0 → ∀ g : Int, 0 ≤ g → g < E → sa (S0 21) (S0 22) (S0 23) (S0 24) (S 25) g)) → GG p l e rm_F_measure s m args below meth c D cls (adr (wX a ki kz kl kq S0)) 4 0 0 (MQ below (QcW D cls (wX a ki kz kl kq) S0 (pV fun S' => msd S0 S' E q)) args s 0 0 (adr (wX a ki kz kl kq S0))) (wX a ki kz kl kq) S [(2, .int (iI (r : Int))), (1, .int (iI h)), (0, .ref (a 27))] 23 [] := by
  intro k
  induction k with
  | zero =>
    intro r h S r1 hk0 hI
    have hhh := hI.2.2.1
    refine g_iload_n C d_F_measure_23 rfl rfl ?_
    refine g_bipush (z := 16) C d_F_measure_24 rfl (by decide) ?_
    refine g_icmp_ge (tgt := 65) C d_F_measure_26 (by decide) rfl (by omega) (by omega) (fun h26 => ?_) (fun h26 => ?_)
    · refine g_vret C hr hk d_F_measure_65 ⟨rfl, ?_⟩
      obtain ⟨wk, t, ht, hB⟩ := hI.2.1
      refine ⟨hI.1, wk, r + 1, 0, t, by omega, hB, ?_⟩
      first
        | exact hI.2.2.2 h30
        | (have hr17 : r = 16 := by omega
           subst hr17
           exact BF_16 hE.2.1 hB)
    · exact absurd h26 (by omega)
  | succ k ih =>
    intro r h S r1 hk0 hI
    have hhh := hI.2.2.1
    refine g_iload_n C d_F_measure_23 rfl rfl ?_
    refine g_bipush (z := 16) C d_F_measure_24 rfl (by decide) ?_
    refine g_icmp_ge (tgt := 65) C d_F_measure_26 (by decide) rfl (by omega) (by omega) (fun h26 => ?_) (fun h26 => ?_)
    · refine g_vret C hr hk d_F_measure_65 ⟨rfl, ?_⟩
      obtain ⟨wk, t, ht, hB⟩ := hI.2.1
      refine ⟨hI.1, wk, r + 1, 0, t, by omega, hB, ?_⟩
      first
        | exact hI.2.2.2 h30
        | (have hr17 : r = 16 := by omega
           subst hr17
           exact BF_16 hE.2.1 hB)
    · refine g_iload_n C d_F_measure_29 rfl rfl ?_
      refine g_if_eq (tgt := 65) C d_F_measure_30 (by decide) rfl (by omega) (fun h30 => ?_) (fun h30 => ?_)
      · refine g_vret C hr hk d_F_measure_65 ⟨rfl, ?_⟩
        obtain ⟨wk, t, ht, hB⟩ := hI.2.1
        refine ⟨hI.1, wk, r + 1, 0, t, by omega, hB, ?_⟩
        first
          | exact hI.2.2.2 h30
          | (have hr17 : r = 16 := by omega
             subst hr17
             exact BF_16 hE.2.1 hB)
      · refine g_iconst (z := 0) C d_F_measure_33 rfl rfl ?_
        refine g_nm (fun h0 e_h0 => ?_)
        refine g_istore_n (lv' := [(1, .int (iI h0)), (2, .int (iI (r : Int))), (0, .ref (a 27))]) C d_F_measure_34 (by decide) rfl rfl ?_
        refine g_iconst (z := 0) C d_F_measure_35 rfl rfl ?_
        refine g_nm (fun i0 e_i0 => ?_)
        refine g_istore_n (lv' := [(3, .int (iI i0)), (1, .int (iI h0)), (2, .int (iI (r : Int))), (0, .ref (a 27))]) C d_F_measure_36 (by decide) rfl rfl ?_
        subst e_h0
        subst e_i0
        refine lo_F_in hE (r := r + 1) (rd := (r : Int)) (by omega) C hr hk E 0 0 S (by omega) (by omega) (by omega) ⟨hI.1, (by obtain ⟨wk, t, c1, c2⟩ := hI.2.1; exact ⟨wk, t, by omega, c2⟩), Or.inl rfl, fun _ g g0 g1 => by omega⟩ (fun h S hI2 => ?_)
        obtain ⟨r2, e_r2⟩ : ∃ z : Int, z = (r : Int) + 1 := ⟨_, rfl⟩
        refine g_iinc (q := 2) (z := r2) (lv' := [(2, .int (iI r2)), (3, .int (iI (E : Int))), (1, .int (iI h)), (0, .ref (a 27))]) C d_F_measure_59 rfl e_r2.symm (by decide) rfl rfl ?_
        refine g_goto (tgt := 23) C d_F_measure_62 (by decide) ?_
        refine GG.lvs (lv' := [(2, .int (iI ((r + 1 : Nat) : Int))), (1, .int (iI h)), (0, .ref (a 27))]) (by rw [show r2 = ((r + 1 : Nat) : Int) by omega]; simp [lk]) ?_
        obtain ⟨b1, ⟨wk, t, b2, b3⟩, b4, b5⟩ := hI2
        exact ih (r + 1) h S (by omega) (by omega) ⟨b1, ⟨wk, t, by have := hE.2.1.1; omega, BF_round b3⟩, b4, b5⟩

set_option maxRecDepth 100000 in
set_option maxHeartbeats 4000000 in
theorem m_F_measure {l : Launch} {D : va_G} {a : Nat → Nat} {ki kz kl kq : ClassId} {S : Nat → Int → Int}  {E : Nat} {q : Int → Int} (hE : edS S E q) : MX l D a ki kz kl kq y_F_measure b_F_measure 4 none rm_F_measure [.ref (a 27)] S (pV fun S' => msd S S' E q) := by
  refine MM.go b_F_measure 4 none "NextPaths$Flow" [(0, .ref (a 27))] (by decide) rfl rfl (Nat.le_of_ble_eq_true rfl) ?_
  intro p e s m args below meth c C hr hk
  refine g_aload_n C d_F_measure_0 rfl rfl ?_
  refine g_get C 27 5 i_F wX_27 rfl (by decide) k_F_24 rfl rfl d_F_measure_1 rfl ?_
  refine g_ldc (z := 1000000) C k_F_83 d_F_measure_4 rfl ?_
  refine g_run0 (w := wX a ki kz kl kq) (q1 := a 32) (g := fun f => .inl (ki, 16, .inl (ia f))) (y := S 25) (nx := fun f i => if i = 25 then f else S i) 32 rfl (fun _ _ => rfl) (fun _ _ h => h.1) rfl (rn_S C (m_J_fill (q := a 32) (N := 16) (by decide)) 2 kc_J_fill k_F_84 ks_J_fill kn_J hy_J_fill ⟨rfl, rfl⟩ ⟨by decide, by decide⟩ ⟨Nat.le_refl _, Nat.le_refl _⟩ rfl rfl (Nat.le_of_ble_eq_true rfl) d_F_measure_6) (fun y hy => ?_)
  obtain ⟨-, hy⟩ := hy
  have hs16 := hE.2.2.1
  refine g_aload_n C d_F_measure_9 rfl rfl ?_
  refine g_get C 27 5 i_F wX_27 rfl (by decide) k_F_24 rfl rfl d_F_measure_10 rfl ?_
  refine g_aload_n C d_F_measure_13 rfl rfl ?_
  refine g_get C 27 8 i_F wX_27 rfl (by decide) k_F_42 rfl rfl d_F_measure_14 rfl ?_
  refine g_v (z' := S 28 0) rfl ?_
  refine g_iconst (z := 0) C d_F_measure_17 rfl rfl ?_
  refine g_iast C 32 0 wX_32 rfl (by omega) (by omega) (by decide) wX_s32 d_F_measure_18 rfl ?_
  refine g_iconst (z := 1) C d_F_measure_19 rfl rfl ?_
  refine g_nm (fun h0 e_h0 => ?_)
  refine g_istore_n (lv' := [(1, .int (iI h0)), (0, .ref (a 27))]) C d_F_measure_20 (by decide) rfl rfl ?_
  refine g_iconst (z := 0) C d_F_measure_21 rfl rfl ?_
  refine g_nm (fun r0 e_r0 => ?_)
  refine g_istore_n (lv' := [(2, .int (iI r0)), (1, .int (iI h0)), (0, .ref (a 27))]) C d_F_measure_22 (by decide) rfl rfl ?_
  subst e_h0
  subst e_r0
  refine lo_F_out hE C hr hk 16 0 1 _ (by omega) (by omega) ⟨fun k hk => ?_, ⟨fun v => [v], 0, by omega, BF_0 hs16.1 hs16.2 (fun v v0 v1 => ?_)⟩, Or.inr rfl, fun h => by omega⟩
  · simp only [List.mem_cons, List.not_mem_nil, or_false, not_or] at hk
    rw [us_n hk.1]
    show (if k = 25 then y else S k) = S k
    rw [if_neg hk.1]
  · rw [us_s]
    by_cases e : v = S 28 0
    · rw [e, up_s, if_pos rfl]
    · rw [up_n e, if_neg e]
      show y v = far
      rw [hy]
      show (if 0 ≤ v ∧ v < ((16 : Nat) : Int) then (1000000 : Int) else S 25 v) = far
      rw [if_pos (by omega)]
      rfl
end
section
/-! the class: one path more -/
theorem gf_less {n N : Nat} {F T Sh W x y u z : Int → Int} {a b kp : Int} (hab : a ≠ b) (hW : ∀ k, 0 ≤ W k) (hT : ∀ k : Int, 0 ≤ k → k < n → 0 ≤ T k ∧ T k < N) (h : GF n N F T x y a b (kp + 1)) (hk : 0 ≤ kp) (hx : bn n x u) (hy : bn N y z) (hS : ∀ k : Int, 0 ≤ k → k < n → 0 < x k → Sh k = 0) (hya : y a = 0) :
    ∃ x' y' : Int → Int, GF n N F T x' y' a b kp ∧ bn n x' u ∧ bn N y' z ∧ sm (fun k => x' k * W k) n ≤ sm (fun k => x k * W k) n := by
  obtain ⟨P, hP, hPx, hPy⟩ := gf_path h (by omega) hab (fun k k0 k1 => (hx k k0 k1).1) (fun v v0 v1 => (hy v v0 v1).1) hS hya
  have hPn := vq_nodup P a [] hP
  have hPa := vq_arcs P a [] hP
  obtain ⟨i1, i2, i3⟩ := vq_inn P a [] hP
  have hne : P ≠ [] := fun e => by subst e; exact hab hP
  have hin : ∀ c, c ∈ inn T P → 0 ≤ c ∧ c < (N : Int) := fun c hc => by
    obtain ⟨k, h1, h2⟩ := inn_mem P c hc
    rw [← h2]; exact hT k (hPa k h1).1 (hPa k h1).2
  have c1 : ∀ k, (P.count k : Nat) ≤ 1 := fun k => List.nodup_iff_count.mp hPn k
  have c2 : ∀ k, ((inn T P).count k : Nat) ≤ 1 := fun k => List.nodup_iff_count.mp i1 k
  refine ⟨fun k => x k - (P.count k : Nat), fun v => y v - ((inn T P).count v : Nat), ?_, fun k k0 k1 => ?_, fun k k0 k1 => ?_, ?_⟩
  · intro q
    have e0 := h q
    have e1 := vq_tele q P a [] hP hne
    have s1 : sm (fun k => (x k - (P.count k : Nat)) * (q (2 * F k + 1) - q (2 * T k))) n = sm (fun k => x k * (q (2 * F k + 1) - q (2 * T k))) n - sm (fun k => (P.count k : Nat) * (q (2 * F k + 1) - q (2 * T k))) n := by
      rw [← sm_sub]; exact sm_congr n (fun k _ _ => Int.sub_mul _ _ _)
    have s2 : sm (fun v => (y v - ((inn T P).count v : Nat)) * (q (2 * v) - q (2 * v + 1))) N = sm (fun v => y v * (q (2 * v) - q (2 * v + 1))) N - sm (fun v => ((inn T P).count v : Nat) * (q (2 * v) - q (2 * v + 1))) N := by
      rw [← sm_sub]; exact sm_congr N (fun k _ _ => Int.sub_mul _ _ _)
    rw [s1, s2, sm_cnt (g := fun k => q (2 * F k + 1) - q (2 * T k)) n P hPa, sm_cnt (g := fun c => q (2 * c) - q (2 * c + 1)) N (inn T P) hin]
    rw [Int.add_mul, Int.one_mul] at e0
    omega
  · have q := hx k k0 k1
    show 0 ≤ x k - (P.count k : Nat) ∧ x k - (P.count k : Nat) ≤ u k
    refine ⟨?_, by omega⟩
    by_cases hk : k ∈ P
    · have := hPx k hk; have := c1 k; omega
    · have : P.count k = 0 := List.count_eq_zero.mpr hk
      omega
  · have q := hy k k0 k1
    show 0 ≤ y k - ((inn T P).count k : Nat) ∧ y k - ((inn T P).count k : Nat) ≤ z k
    refine ⟨?_, by omega⟩
    by_cases hk : k ∈ inn T P
    · have := hPy k hk; have := c2 k; omega
    · have : (inn T P).count k = 0 := List.count_eq_zero.mpr hk
      omega
  · refine sm_le n (fun k _ _ => ?_)
    show (x k - (P.count k : Nat)) * W k ≤ x k * W k
    exact Int.mul_le_mul_of_nonneg_right (by omega) (hW k)
abbrev Mz (S : Nat → Int → Int) (u b : Int) : Nat := oa (S 6) (S 1 0).toNat + nv u b (S 0 0).toNat
abbrev FIz (S : Nat → Int → Int) (u b c : Int) (er : Int → Int) (kp tot : Int) : Prop := FI (S 1 0).toNat (S 0 0).toNat (S 2) (S 3) (S 4) (S 6) u b c (S 21) (S 22) (S 23) er kp tot
/-- the flow that the arrays hold: kp paths, tot together -/
def FJ (S : Nat → Int → Int) (u b c kp tot : Int) : Prop := FIz S u b c (S 24) kp tot ∧ S 27 0 = (2 * Mz S u b : Nat) ∧ S 28 0 = 2 * u + 1 ∧ S 29 0 = 2 * b ∧ ∀ j : Int, 0 ≤ j → j < Mz S u b → S 24 (2 * j) + S 24 (2 * j + 1) ≤ 20
theorem FJ_ed {S : Nat → Int → Int} {u b c kp tot : Int} (h : FJ S u b c kp tot) (hu : 0 ≤ u ∧ u < 8) : ∃ q, edS S (2 * Mz S u b) q := by
  obtain ⟨⟨f1, f2, f3, f4, f5, q, f6⟩, h2, h3, h4, h5⟩ := h
  refine ⟨q, h2, f6, by omega, fun g g0 g1 => ?_⟩
  unfold Mz at g1 h5
  have k1 := f2 g g0 g1
  have hb := h5 (g / 2) (by omega) (by omega)
  have k2 := f2 (2 * (g / 2)) (by omega) (by omega)
  have k3 := f2 (2 * (g / 2) + 1) (by omega) (by omega)
  rcases (show g = 2 * (g / 2) ∨ g = 2 * (g / 2) + 1 by omega) with e | e
  · rw [← e] at hb k3; omega
  · rw [← e] at hb; omega
/-- no way is left: a cut -/
theorem FJ_cut {S S' : Nat → Int → Int} {u b c kp tot : Int} {q : Int → Int} (h : FJ S u b c kp tot) (hm : msd S S' (2 * Mz S u b) q) (hE : ed (2 * Mz S u b) (S 21) (S 22) (S 23) (S 24) q) (hg : S' 25 (2 * b) = far) : ∃ R : Int → Bool, shutR (S 1 0).toNat (S 0 0).toNat (S 2) (S 3) (fx (S 6) (S 24)) (fy (S 1 0).toNat (S 6) u b (S 24)) (ua (S 6)) (zn u b c) R ∧ R (2 * u + 1) = true ∧ R (2 * b) = false := by
  obtain ⟨m1, wk, r, i, t, m2, m3, m4⟩ := hm
  obtain ⟨⟨f1, f2, f3, f4, f5, f6⟩, h2, h3, h4, h5⟩ := h
  refine ⟨fun v => decide (S' 25 v ≠ far), ne_shut f1 f2 f3 (fun g g0 g1 hr hR => ?_), ?_, by simp [hg]⟩
  · have hR' : S' 25 (S 21 g) ≠ far := by simpa using hR
    have hb := m3.2.2.2.2.2.1 (S 21 g) (hE.2.1 g g0 g1).1 (hE.2.1 g g0 g1).2.1
    have hc := (hE.2.1 g g0 g1).2.2.2.2.2
    have hb' := hb.resolve_left hR'
    have hs : S' 25 (S 22 g) ≠ far := by
      rcases m4 g g0 g1 with z | z | z
      · omega
      · exact absurd z hR'
      · unfold far; omega
    simp [hs]
  · have : S' 25 (S 28 0) = 0 := m3.2.2.2.1
    rw [h3] at this
    simp [this, far]
/-- one path more is a flow again, and costs no less -/
theorem FJ_more {S S1 S2 : Nat → Int → Int} {u b c kp tot : Int} {q : Int → Int} (hG : GIs S) (hu : 0 ≤ u ∧ u < S 0 0) (hb : 0 ≤ b ∧ b < S 0 0) (hub : u ≠ b) (hk0 : 0 ≤ kp) (h : FJ S u b c kp tot) (hE : ed (2 * Mz S u b) (S 21) (S 22) (S 23) (S 24) q) (wk : Int → List Int) (r : Nat) (i t : Int) (ht : t ≤ 900) (hB : BF (2 * Mz S u b) (S 21) (S 22) (S 23) (S 24) (S 28 0) q (S1 25) (S1 26) wk r i t) (hs : ∀ g : Int, 0 ≤ g → g < (2 * Mz S u b : Nat) → sa (S 21) (S 22) (S 23) (S 24) (S1 25) g)
    (he : eqx [24, 25, 26] S S2) (hA : AU (Mz S u b) (S 21) (S 22) (S 23) (S 24) (S2 24) (S1 25) (S1 26) wk (S 28 0) (2 * b) (S 28 0)) : 0 ≤ S1 25 (2 * b) ∧ FJ S2 u b c (kp + 1) (tot + S1 25 (2 * b)) := by
  obtain ⟨⟨f1, f2, f3, f4, f5, f6⟩, h2, h3, h4, h5⟩ := h
  obtain ⟨q', hq'⟩ := AU_end hE ht hB hs hA
  have hds : S1 25 (S 28 0) = 0 := hB.2.2.2.1
  obtain ⟨b0, b1, b2, b3, b4, b5, b6, b7, b8⟩ := hA
  have hca : CA (S 1 0).toNat (S 0 0).toNat (S 6) u b c (S2 24) := by
    refine ⟨fun k k0 k1 so => ?_, fun v v0 v1 va vb => ?_⟩
    · rw [b6 _ (by omega) (ja_in (a := u) (b := b) k0 k1 so)]; exact f3.1 k k0 k1 so
    · rw [b6 _ (by omega) (jn_in v0 v1 va vb)]; exact f3.2 v v0 v1 va vb
  have hgs : ∀ q : Int → Int, gs (Mz S u b) (S2 24) (fun e => q (S 21 e) - q (S 22 e)) = (kp + 1) * (q (2 * u + 1) - q (2 * b)) := fun q => by
    rw [b3 q, f4 q, h3, Int.add_mul, Int.one_mul]
  have hcs : gs (Mz S u b) (S2 24) (S 23) = tot + S1 25 (2 * b) := by rw [b4, f5]; omega
  have hFI : FIz S u b c (S2 24) (kp + 1) (tot + S1 25 (2 * b)) := ⟨f1, b5, hca, hgs, hcs, q', hq'⟩
  refine ⟨?_, ?_⟩
  · have hT : ∀ k : Int, 0 ≤ k → k < (S 1 0).toNat → 0 ≤ S 3 k ∧ S 3 k < (S 0 0).toNat := fun k k0 k1 => ⟨(hG.2.2.1.2.2.1 k).2.2.1, (hG.2.2.1.2.2.2 k k0 k1).2.1⟩
    have hW : ∀ k, 0 ≤ S 4 k := fun k => (hG.2.2.1.2.2.1 k).2.2.2.2.1
    obtain ⟨x', y', l1, l2, l3, l4⟩ := gf_less (Sh := S 6) (W := S 4) hub hW hT (ne_gf f1 hgs) hk0 (ne_bx b5 hca) (ne_by b5 hca) (fun k k0 k1 hk => by
      refine Classical.byContradiction (fun z => ?_)
      unfold fx at hk; rw [if_neg z] at hk; omega) (by unfold fy; rw [if_pos (Or.inl rfl)])
    obtain ⟨p0, hp0⟩ := f6
    have hop := gf_opt (ne_po f1 f3 hp0.2.2) (ne_gf f1 f4) l1 l2 l3
    rw [ne_cs f1] at f5 hcs
    omega
  · have g : ∀ k, k ≠ 24 → k ≠ 25 → k ≠ 26 → S2 k = S k := fun k x1 x2 x3 => he k (by simp [x1, x2, x3])
    unfold FJ FIz Mz
    rw [g 0 (by decide) (by decide) (by decide), g 1 (by decide) (by decide) (by decide), g 2 (by decide) (by decide) (by decide), g 3 (by decide) (by decide) (by decide), g 4 (by decide) (by decide) (by decide), g 6 (by decide) (by decide) (by decide), g 21 (by decide) (by decide) (by decide), g 22 (by decide) (by decide) (by decide), g 23 (by decide) (by decide) (by decide), g 27 (by decide) (by decide) (by decide), g 28 (by decide) (by decide) (by decide), g 29 (by decide) (by decide) (by decide)]
    exact ⟨hFI, h2, h3, h4, fun j j0 j1 => by rw [b6 j j0 j1]; exact h5 j j0 j1⟩
theorem xor1_ok {g : Int} (h0 : 0 ≤ g) (h1 : g < 1000) : iI g ^^^ iI 1 = iI (pt g) := by
  obtain ⟨k, rfl⟩ := Int.eq_ofNat_of_zero_le h0
  have key : ∀ k : Nat, k < 1000 → nI k ^^^ nI 1 = nI (if k % 2 = 0 then k + 1 else k - 1) := by decide +kernel
  rw [iI_nI, show iI 1 = nI 1 from rfl, key k (by omega), ← iI_nI]
  congr 1
  unfold pt
  by_cases c : k % 2 = 0
  · rw [if_pos c, if_pos (by omega)]; omega
  · rw [if_neg c, if_neg (by omega)]; omega

set_option maxRecDepth 100000 in
set_option maxHeartbeats 4000000 in
theorem lo_F_addPath {l : Launch} {D : va_G} {a : Nat → Nat} {ki kz kl kq : ClassId} {p : Program} {e : Env} {s : State} {m : MethodId} {args : Array Value} {below : List Frame} {meth : Method} {c : Code} {S0 : Nat → Int → Int} {u b c0 kp tot : Int} (hG : GIs S0) (hu : 0 ≤ u ∧ u < S0 0 0) (hb : 0 ≤ b ∧ b < S0 0 0) (hub : u ≠ b) (hk0 : 0 ≤ kp) (hJ : FJ S0 u b c0 kp tot) {q : Int → Int} {S1 : Nat → Int → Int} {wk : Int → List Int} {r : Nat} {i0 t : Int} (hE : ed (2 * Mz S0 u b) (S0 21) (S0 22) (S0 23) (S0 24) q) (ht : t ≤ 900) (hB : BF (2 * Mz S0 u b) (S0 21) (S0 22) (S0 23) (S0 24) (S0 28 0) q (S1 25) (S1 26) wk r i0 t) (hs : ∀ g : Int, 0 ≤ g → g < (2 * Mz S0 u b : Nat) → sa (S0 21) (S0 22) (S0 23) (S0 24) (S1 25) g) (h1 : eqx [25, 26] S0 S1) (hfar : S1 25 (2 * b) ≠ far) (C : CX p s m args c b_F_addPath 4 "NextPaths$Flow" TT D cls (tyz ki kz kl kq)) (hr : meth.sig.returnType = (some .int)) (hk : meth.locks = false) : ∀ (k i : Nat) (z : Int) (S : Nat → Int → Int), (wk z).length ≤ k → (wk z).length + i ≤ 16 → eqx [24] S1 S → AU (Mz S0 u b) (S0 21) (S0 22) (S0 23) (S0 24) (S 24) (S1 25) (S1 26) wk (S0 28 0) (2 * b) z → GG p l e rm_F_addPath s m args below meth c D cls (adr (wX a ki kz kl kq S0)) 4 0 0 (MQ below (QcW D cls (wX a ki kz kl kq) S0 (pI fun r S' => eqx [24, 25, 26] S0 S' ∧ ((r = -1 ∧ S' 24 = S0 24 ∧ ∃ R : Int → Bool, shutR (S0 1 0).toNat (S0 0 0).toNat (S0 2) (S0 3) (fx (S0 6) (S0 24)) (fy (S0 1 0).toNat (S0 6) u b (S0 24)) (ua (S0 6)) (zn u b c0) R ∧ R (2 * u + 1) = true ∧ R (2 * b) = false) ∨ ((0 ≤ r ∧ r < 1000000) ∧ FJ S' u b c0 (kp + 1) (tot + r))))) args s 0 0 (adr (wX a ki kz kl kq S0))) (wX a ki kz kl kq) S [(2, .int (iI (i : Int))), (1, .int (iI z)), (0, .ref (a 27))] 27 [] := by
  intro k
  induction k with
  | zero =>
    intro i z S hk1 hlk hS hA
    exfalso
    have := (hB.2.2.2.2.2.2.1 z hA.1 hA.2.1 hA.2.2.1).2.1
    have := List.length_pos_of_mem this
    omega
  | succ k ih =>
    intro i z S hk1 hlk hS hA
    have hz16 : 0 ≤ z ∧ z < 16 := ⟨hA.1, hA.2.1⟩
    have hlen : 1 ≤ (wk z).length := by
      have := (hB.2.2.2.2.2.2.1 z hA.1 hA.2.1 hA.2.2.1).2.1
      exact List.length_pos_of_mem this
    have e28 : S 28 0 = S0 28 0 := by rw [hS 28 (by decide), h1 28 (by decide)]
    have e29 : S 29 0 = 2 * b := by rw [hS 29 (by decide), h1 29 (by decide)]; exact hJ.2.2.2.1
    have hs28 := hJ.2.2.1
    have hn8 := hG.1
    have hE56 := hE.1
    refine g_iload_n C d_F_addPath_27 rfl rfl ?_
    refine g_bipush (z := 16) C d_F_addPath_28 rfl (by decide) ?_
    refine g_icmp_ge (tgt := 83) C d_F_addPath_30 (by decide) rfl (by omega) (by omega) (fun h30 => ?_) (fun h30 => ?_)
    · exact absurd h30 (by omega)
    · refine g_iload_n C d_F_addPath_33 rfl rfl ?_
      refine g_aload_n C d_F_addPath_34 rfl rfl ?_
      refine g_get C 27 8 i_F wX_27 rfl (by decide) k_F_42 rfl rfl d_F_addPath_35 rfl ?_
      refine g_v (z' := (S0 28 0)) e28 ?_
      refine g_icmp_eq (tgt := 83) C d_F_addPath_38 (by decide) rfl (by omega) (by omega) (fun h38 => ?_) (fun h38 => ?_)
      · refine g_aload_n C d_F_addPath_83 rfl rfl ?_
        refine g_get C 27 5 i_F wX_27 rfl (by decide) k_F_24 rfl rfl d_F_addPath_84 rfl ?_
        refine g_aload_n C d_F_addPath_87 rfl rfl ?_
        refine g_get C 27 9 i_F wX_27 rfl (by decide) k_F_48 rfl rfl d_F_addPath_88 rfl ?_
        refine g_v (z' := (2 * b)) e29 ?_
        refine g_iald C 32 0 wX_32 rfl (by omega) (by omega) (by decide) d_F_addPath_91 rfl ?_
        refine g_v (z' := (S1 25 (2 * b))) (by rw [hS 25 (by decide)]) ?_
        refine g_iret C hr hk d_F_addPath_92 ⟨_, rfl, ?_⟩
        have hze : z = S0 28 0 := h38
        subst hze
        have he : eqx [24, 25, 26] S0 S := fun k hk => by
          simp only [List.mem_cons, List.not_mem_nil, or_false, not_or] at hk
          rw [hS k (by simp [hk.1]), h1 k (by simp [hk.2.1, hk.2.2])]
        have hm := FJ_more hG hu hb hub hk0 hJ hE wk r i0 t ht hB hs he hA
        have hbd := (hB.2.2.2.2.2.1 (2 * b) (by omega) (by omega)).resolve_left hfar
        exact ⟨he, Or.inr ⟨⟨hm.1, by omega⟩, hm.2⟩⟩
      · obtain ⟨hA2, hw2, hg0, hg1⟩ := AU_step hE hJ.1.1.2.2 hB hs hA h38
        have e26 : S 26 z = S1 26 z := by rw [hS 26 (by decide)]
        refine g_aload_n C d_F_addPath_41 rfl rfl ?_
        refine g_get C 27 6 i_F wX_27 rfl (by decide) k_F_27 rfl rfl d_F_addPath_42 rfl ?_
        refine g_iload_n C d_F_addPath_45 rfl rfl ?_
        refine g_iald C 33 0 wX_33 rfl (by omega) (by omega) (by decide) d_F_addPath_46 rfl ?_
        refine g_v (z' := (S1 26 z)) e26 ?_
        refine g_nm (fun g1 e_g1 => ?_)
        refine g_istore_n (lv' := [(3, .int (iI g1)), (2, .int (iI (i : Int))), (1, .int (iI z)), (0, .ref (a 27))]) C d_F_addPath_47 (by decide) rfl rfl ?_
        have hg : 0 ≤ g1 ∧ g1 < (2 * Mz S0 u b : Nat) := by omega
        obtain ⟨p0, p1, p2, p3⟩ := pt_in hg.1 hg.2
        have hro := hA.2.2.2.2.2.1
        have hr1 := hro g1 hg.1 hg.2
        have hr2 := hro (pt g1) p0 p1
        refine g_aload_n C d_F_addPath_48 rfl rfl ?_
        refine g_get C 27 4 i_F wX_27 rfl (by decide) k_F_21 rfl rfl d_F_addPath_49 rfl ?_
        refine g_iload_n C d_F_addPath_52 rfl rfl ?_
        refine g_dup2 C d_F_addPath_53 rfl rfl rfl ?_
        refine g_iald C 31 0 wX_31 rfl (by omega) (by omega) (by decide) d_F_addPath_54 rfl ?_
        refine g_iconst (z := 1) C d_F_addPath_55 rfl rfl ?_
        refine g_isub C d_F_addPath_56 rfl rfl ?_
        refine g_iast C 31 0 wX_31 rfl (by omega) (by omega) (by decide) wX_s31 d_F_addPath_57 rfl ?_
        refine g_aload_n C d_F_addPath_58 rfl rfl ?_
        refine g_get C 27 4 i_F wX_27 rfl (by decide) k_F_21 rfl rfl d_F_addPath_59 rfl ?_
        refine g_iload_n C d_F_addPath_62 rfl rfl ?_
        refine g_iconst (z := 1) C d_F_addPath_63 rfl rfl ?_
        refine g_ixor (z := (pt g1)) C d_F_addPath_64 (xor1_ok (by omega) (by omega)) rfl ?_
        refine g_dup2 C d_F_addPath_65 rfl rfl rfl ?_
        refine g_iald C 31 0 wX_31 rfl (by omega) (by omega) (by decide) d_F_addPath_66 rfl ?_
        refine g_v (z' := (S 24 (pt g1))) (by rw [us_s, up_n p2]) ?_
        refine g_iconst (z := 1) C d_F_addPath_67 rfl rfl ?_
        refine g_iadd C d_F_addPath_68 rfl rfl ?_
        refine g_iast C 31 0 wX_31 rfl (by omega) (by omega) (by decide) wX_s31 d_F_addPath_69 rfl ?_
        refine g_aload_n C d_F_addPath_70 rfl rfl ?_
        refine g_get C 27 1 i_F wX_27 rfl (by decide) k_F_11 rfl rfl d_F_addPath_71 rfl ?_
        refine g_iload_n C d_F_addPath_74 rfl rfl ?_
        refine g_iald C 28 0 wX_28 rfl (by omega) (by omega) (by decide) d_F_addPath_75 rfl ?_
        refine g_v (z' := (S0 21 g1)) (by rw [us_n (by decide), us_n (by decide), hS 21 (by decide), h1 21 (by decide)]) ?_
        refine g_nm (fun z2 e_z2 => ?_)
        refine g_istore_n (lv' := [(1, .int (iI z2)), (3, .int (iI g1)), (2, .int (iI (i : Int))), (0, .ref (a 27))]) C d_F_addPath_76 (by decide) rfl rfl ?_
        obtain ⟨i2, e_i2⟩ : ∃ z : Int, z = (i : Int) + 1 := ⟨_, rfl⟩
        refine g_iinc (q := 2) (z := i2) (lv' := [(2, .int (iI i2)), (1, .int (iI z2)), (3, .int (iI g1)), (0, .ref (a 27))]) C d_F_addPath_77 rfl e_i2.symm (by decide) rfl rfl ?_
        refine g_goto (tgt := 27) C d_F_addPath_80 (by decide) ?_
        refine GG.lvs (lv' := [(2, .int (iI ((i + 1 : Nat) : Int))), (1, .int (iI z2)), (0, .ref (a 27))]) (by rw [show i2 = ((i + 1 : Nat) : Int) by omega]; simp [lk]) ?_
        subst e_z2
        subst e_g1
        refine ih (i + 1) _ _ (by omega) (by omega) ?_ ?_
        · exact eqx_us (eqx_us hS (by simp)) (by simp)
        · have e24 : us (us S 24 (S1 26 z) (S 24 (S1 26 z) - 1)) 24 (pt (S1 26 z)) (S 24 (pt (S1 26 z)) + 1) 24 = ps (S 24) (S1 26 z) := by rw [us_s, us_s]; rfl
          rw [e24]
          exact hA2

set_option maxRecDepth 100000 in
set_option maxHeartbeats 4000000 in
theorem m_F_addPath {l : Launch} {D : va_G} {a : Nat → Nat} {ki kz kl kq : ClassId} {S : Nat → Int → Int}  {u b c0 kp tot : Int} (hG : GIs S) (hu : 0 ≤ u ∧ u < S 0 0) (hb : 0 ≤ b ∧ b < S 0 0) (hub : u ≠ b) (hk0 : 0 ≤ kp) (hJ : FJ S u b c0 kp tot) : MX l D a ki kz kl kq y_F_addPath b_F_addPath 4 (some .int) rm_F_addPath [.ref (a 27)] S (pI fun r S' => eqx [24, 25, 26] S S' ∧ ((r = -1 ∧ S' 24 = S 24 ∧ ∃ R : Int → Bool, shutR (S 1 0).toNat (S 0 0).toNat (S 2) (S 3) (fx (S 6) (S 24)) (fy (S 1 0).toNat (S 6) u b (S 24)) (ua (S 6)) (zn u b c0) R ∧ R (2 * u + 1) = true ∧ R (2 * b) = false) ∨ ((0 ≤ r ∧ r < 1000000) ∧ FJ S' u b c0 (kp + 1) (tot + r)))) := by
  refine MM.go b_F_addPath 4 (some .int) "NextPaths$Flow" [(0, .ref (a 27))] (by decide) rfl rfl (Nat.le_of_ble_eq_true rfl) ?_
  intro p e s m args below meth c C hr hk
  obtain ⟨q, hE⟩ := FJ_ed hJ (by have := hG.1; omega)
  have hn8 := hG.1
  refine g_aload_n C d_F_addPath_0 rfl rfl ?_
  refine g_runV (wX_fix a ki kz kl kq) rfl (rn_V C (m_F_measure hE) 27 0 wX_27 rfl rfl kc_F_measure k_F_80 ki_F_measure kx_F_measure kn_F hy_F_measure ⟨rfl, rfl⟩ ⟨by decide, by decide⟩ ⟨Nat.le_refl _, Nat.le_refl _⟩ rfl rfl (Nat.le_of_ble_eq_true rfl) d_F_addPath_1) (fun S1 hm => ?_)
  have hm0 := hm
  obtain ⟨m1, wk, r, i, t, m2, m3, m4⟩ := hm
  have e29 : S1 29 0 = 2 * b := by rw [m1 29 (by decide)]; exact hJ.2.2.2.1
  have hbd := m3.2.2.2.2.2.1 (2 * b) (by omega) (by omega)
  refine g_aload_n C d_F_addPath_4 rfl rfl ?_
  refine g_get C 27 5 i_F wX_27 rfl (by decide) k_F_24 rfl rfl d_F_addPath_5 rfl ?_
  refine g_aload_n C d_F_addPath_8 rfl rfl ?_
  refine g_get C 27 9 i_F wX_27 rfl (by decide) k_F_48 rfl rfl d_F_addPath_9 rfl ?_
  refine g_v (z' := (2 * b)) e29 ?_
  refine g_iald C 32 0 wX_32 rfl (by omega) (by omega) (by decide) d_F_addPath_12 rfl ?_
  refine g_ldc (z := 1000000) C k_F_83 d_F_addPath_13 rfl ?_
  refine g_icmp_lt (tgt := 20) C d_F_addPath_15 (by decide) rfl (by unfold far at hbd; omega) (by omega) (fun h15 => ?_) (fun h15 => ?_)
  · refine g_aload_n C d_F_addPath_20 rfl rfl ?_
    refine g_get C 27 9 i_F wX_27 rfl (by decide) k_F_48 rfl rfl d_F_addPath_21 rfl ?_
    refine g_v (z' := (2 * b)) e29 ?_
    refine g_nm (fun z0 e_z0 => ?_)
    refine g_istore_n (lv' := [(1, .int (iI z0)), (0, .ref (a 27))]) C d_F_addPath_24 (by decide) rfl rfl ?_
    refine g_iconst (z := 0) C d_F_addPath_25 rfl rfl ?_
    refine g_nm (fun i0 e_i0 => ?_)
    refine g_istore_n (lv' := [(2, .int (iI i0)), (1, .int (iI z0)), (0, .ref (a 27))]) C d_F_addPath_26 (by decide) rfl rfl ?_
    subst e_z0
    subst e_i0
    have hfar : S1 25 (2 * b) ≠ far := by unfold far at hbd ⊢; omega
    have hl16 := BF_len m3 (v := 2 * b) (by omega) (by omega) hfar
    refine lo_F_addPath hG hu hb hub hk0 hJ hE.2.1 m2 m3 m4 m1 hfar C hr hk _ 0 (2 * b) S1 (Nat.le_refl _) (by omega) eqx_rf ?_
    rw [m1 24 (by decide)]
    exact AU_0 (by omega) (by omega) hfar hJ.1.2.1
  · refine g_iconst (z := (-1)) C d_F_addPath_18 rfl rfl ?_
    refine g_iret C hr hk d_F_addPath_19 ⟨_, rfl, ?_⟩
    have hf : S1 25 (2 * b) = far := by unfold far at hbd ⊢; omega
    exact ⟨eqx_mono m1 (by simp), Or.inl ⟨rfl, m1 24 (by decide), FJ_cut hJ hm0 hE.2.1 hf⟩⟩
end
section
/-! the class: the edges of a graph -/
theorem adE_old {S : Nat → Int → Int} {g z1 z2 z3 z4 x : Int} {k : Nat} (hx : x < g) (hk : k ≠ 27) : adE S g z1 z2 z3 z4 k x = S k x := by
  unfold adE us up_
  simp only [hk, if_false]
  by_cases c1 : k = 24
  · subst c1; simp; omega
  · by_cases c2 : k = 23
    · subst c2; simp; omega
    · by_cases c3 : k = 22
      · subst c3; simp; omega
      · by_cases c4 : k = 21
        · subst c4; simp; omega
        · simp [c1, c2, c3, c4]
theorem adE_g {S : Nat → Int → Int} {g z1 z2 z3 z4 : Int} : adE S g z1 z2 z3 z4 21 g = z1 ∧ adE S g z1 z2 z3 z4 22 g = z2 ∧ adE S g z1 z2 z3 z4 23 g = z3 ∧ adE S g z1 z2 z3 z4 24 g = z4 ∧ adE S g z1 z2 z3 z4 21 (g + 1) = z2 ∧ adE S g z1 z2 z3 z4 22 (g + 1) = z1 ∧ adE S g z1 z2 z3 z4 23 (g + 1) = -z3 ∧ adE S g z1 z2 z3 z4 24 (g + 1) = 0 ∧ adE S g z1 z2 z3 z4 27 0 = g + 2 := by
  unfold adE us up_
  have : ¬ g = g + 1 := by omega
  simp [this]
theorem adE_eqx {S : Nat → Int → Int} {g z1 z2 z3 z4 : Int} : eqx [21, 22, 23, 24, 27] S (adE S g z1 z2 z3 z4) := by
  intro k hk
  simp only [List.mem_cons, List.not_mem_nil, or_false, not_or] at hk
  unfold adE us
  simp [hk]
/-- M pairs of edges stand in the arrays, nothing flows -/
def PE (S : Nat → Int → Int) (M : Nat) : Prop := S 27 0 = (2 * M : Nat) ∧ ∀ j : Int, 0 ≤ j → j < M → S 21 (2 * j + 1) = S 22 (2 * j) ∧ S 22 (2 * j + 1) = S 21 (2 * j) ∧ S 23 (2 * j + 1) = - S 23 (2 * j) ∧ S 24 (2 * j + 1) = 0 ∧ (0 ≤ S 21 (2 * j) ∧ S 21 (2 * j) < 16) ∧ (0 ≤ S 22 (2 * j) ∧ S 22 (2 * j) < 16) ∧ S 21 (2 * j) ≠ S 22 (2 * j) ∧ (0 ≤ S 23 (2 * j) ∧ S 23 (2 * j) ≤ 1000) ∧ (0 ≤ S 24 (2 * j) ∧ S 24 (2 * j) ≤ 20)
theorem PE_s {S : Nat → Int → Int} {M : Nat} {z1 z2 z3 z4 : Int} (h : PE S M) (h1 : 0 ≤ z1 ∧ z1 < 16) (h2 : 0 ≤ z2 ∧ z2 < 16) (h12 : z1 ≠ z2) (h3 : 0 ≤ z3 ∧ z3 ≤ 1000) (h4 : 0 ≤ z4 ∧ z4 ≤ 20) : PE (adE S (2 * M : Nat) z1 z2 z3 z4) (M + 1) := by
  obtain ⟨a1, a2, a3, a4, a5, a6, a7, a8, a9⟩ := adE_g (S := S) (g := (2 * M : Nat)) (z1 := z1) (z2 := z2) (z3 := z3) (z4 := z4)
  refine ⟨by rw [a9]; omega, fun j j0 j1 => ?_⟩
  by_cases e : j = M
  · have e1 : 2 * j = ((2 * M : Nat) : Int) := by omega
    rw [e1, a1, a2, a3, a4, a5, a6, a7, a8]
    exact ⟨rfl, rfl, rfl, rfl, h1, h2, h12, h3, h4⟩
  · have hj : 2 * j + 1 < ((2 * M : Nat) : Int) := by omega
    rw [adE_old (k := 21) (x := 2 * j + 1) (by omega) (by decide), adE_old (k := 22) (x := 2 * j) (by omega) (by decide), adE_old (k := 22) (x := 2 * j + 1) (by omega) (by decide), adE_old (k := 21) (x := 2 * j) (by omega) (by decide), adE_old (k := 23) (x := 2 * j + 1) (by omega) (by decide), adE_old (k := 23) (x := 2 * j) (by omega) (by decide), adE_old (k := 24) (x := 2 * j + 1) (by omega) (by decide), adE_old (k := 24) (x := 2 * j) (by omega) (by decide)]
    exact h.2 j j0 (by omega)
/-- the first k arcs have their edges -/
def A1z (S0 S : Nat → Int → Int) (k : Nat) : Prop := ∀ j : Int, 0 ≤ j → j < k → S0 6 j = 0 → S 21 (2 * (oa (S0 6) j.toNat : Nat)) = 2 * S0 2 j + 1 ∧ S 22 (2 * (oa (S0 6) j.toNat : Nat)) = 2 * S0 3 j ∧ S 23 (2 * (oa (S0 6) j.toNat : Nat)) = S0 4 j ∧ S 24 (2 * (oa (S0 6) j.toNat : Nat)) = 1
def A2z (S0 S : Nat → Int → Int) (u b c : Int) (n m : Nat) : Prop := ∀ v : Int, 0 ≤ v → v < m → v ≠ u → v ≠ b → S 21 (2 * (oa (S0 6) n + nv u b v.toNat : Nat)) = 2 * v ∧ S 22 (2 * (oa (S0 6) n + nv u b v.toNat : Nat)) = 2 * v + 1 ∧ S 23 (2 * (oa (S0 6) n + nv u b v.toNat : Nat)) = 0 ∧ S 24 (2 * (oa (S0 6) n + nv u b v.toNat : Nat)) = c
/-- while the arcs' edges are made; the nodes' -/
def pr1 (S0 S : Nat → Int → Int) (u b : Int) (k : Nat) : Prop := eqx [21, 22, 23, 24, 27, 28, 29] S0 S ∧ S 28 0 = 2 * u + 1 ∧ S 29 0 = 2 * b ∧ PE S (oa (S0 6) k) ∧ A1z S0 S k
def pr2 (S0 S : Nat → Int → Int) (u b c : Int) (m : Nat) : Prop := eqx [21, 22, 23, 24, 27, 28, 29] S0 S ∧ S 28 0 = 2 * u + 1 ∧ S 29 0 = 2 * b ∧ PE S (oa (S0 6) (S0 1 0).toNat + nv u b m) ∧ A1z S0 S (S0 1 0).toNat ∧ A2z S0 S u b c (S0 1 0).toNat m
theorem eqx_adE {S0 S : Nat → Int → Int} {g z1 z2 z3 z4 : Int} (h : eqx [21, 22, 23, 24, 27, 28, 29] S0 S) : eqx [21, 22, 23, 24, 27, 28, 29] S0 (adE S g z1 z2 z3 z4) := fun k hk => by
  rw [adE_eqx k (by simp at hk ⊢; omega)]
  exact h k hk
theorem pr1_skip {S0 S : Nat → Int → Int} {u b : Int} {k : Nat} (h : pr1 S0 S u b k) (hs : S0 6 k ≠ 0) : pr1 S0 S u b (k + 1) := by
  obtain ⟨a1, a2, a3, a4, a5⟩ := h
  refine ⟨a1, a2, a3, by simp only [oa]; rw [if_neg hs]; exact a4, fun j j0 j1 js => a5 j j0 ?_ js⟩
  by_cases e : j = k
  · subst e; exact absurd js hs
  · omega
theorem pr1_add {S0 S : Nat → Int → Int} {u b : Int} {k : Nat} (h : pr1 S0 S u b k) (hs : S0 6 k = 0) (h1 : 0 ≤ S0 2 k ∧ S0 2 k < 8) (h2 : 0 ≤ S0 3 k ∧ S0 3 k < 8) (h3 : 0 ≤ S0 4 k ∧ S0 4 k ≤ 1000) : pr1 S0 (adE S (2 * oa (S0 6) k : Nat) (2 * S0 2 k + 1) (2 * S0 3 k) (S0 4 k) 1) u b (k + 1) := by
  obtain ⟨a1, a2, a3, a4, a5⟩ := h
  obtain ⟨b1, b2, b3, b4, -⟩ := adE_g (S := S) (g := (2 * oa (S0 6) k : Nat)) (z1 := 2 * S0 2 k + 1) (z2 := 2 * S0 3 k) (z3 := S0 4 k) (z4 := 1)
  refine ⟨eqx_adE a1, by rw [adE_eqx 28 (by decide)]; exact a2, by rw [adE_eqx 29 (by decide)]; exact a3, ?_, fun j j0 j1 js => ?_⟩
  · simp only [oa]; rw [if_pos hs]
    exact PE_s a4 (by omega) (by omega) (by omega) h3 (by omega)
  · by_cases e : j = k
    · have e1 : (2 * (oa (S0 6) j.toNat : Nat) : Int) = (2 * oa (S0 6) k : Nat) := by rw [e, Int.toNat_natCast]; omega
      rw [e1, b1, b2, b3, b4, e]
      exact ⟨rfl, rfl, rfl, rfl⟩
    · have hl := oa_lt (Sh := S0 6) (i := j.toNat) (j := k) (by omega) (by rw [Int.toNat_of_nonneg j0]; exact js)
      rw [adE_old (by omega) (by decide), adE_old (by omega) (by decide), adE_old (by omega) (by decide), adE_old (by omega) (by decide)]
      exact a5 j j0 (by omega) js
theorem pr2_0 {S0 S : Nat → Int → Int} {u b c : Int} (h : pr1 S0 S u b (S0 1 0).toNat) : pr2 S0 S u b c 0 := ⟨h.1, h.2.1, h.2.2.1, h.2.2.2.1, h.2.2.2.2, fun v v0 v1 => by omega⟩
theorem pr2_skip {S0 S : Nat → Int → Int} {u b c : Int} {m : Nat} (h : pr2 S0 S u b c m) (hs : (m : Int) = u ∨ (m : Int) = b) : pr2 S0 S u b c (m + 1) := by
  obtain ⟨a1, a2, a3, a4, a5, a6⟩ := h
  refine ⟨a1, a2, a3, by simp only [nv]; rw [if_pos hs]; exact a4, a5, fun v v0 v1 vu vb => a6 v v0 ?_ vu vb⟩
  by_cases e : v = m
  · omega
  · omega
theorem pr2_add {S0 S : Nat → Int → Int} {u b c : Int} {m : Nat} (h : pr2 S0 S u b c m) (hs : ¬ ((m : Int) = u ∨ (m : Int) = b)) (hm : m < 8) (hc : 0 ≤ c ∧ c ≤ 20) : pr2 S0 (adE S (2 * (oa (S0 6) (S0 1 0).toNat + nv u b m) : Nat) (2 * (m : Int)) (2 * (m : Int) + 1) 0 c) u b c (m + 1) := by
  obtain ⟨a1, a2, a3, a4, a5, a6⟩ := h
  obtain ⟨b1, b2, b3, b4, -⟩ := adE_g (S := S) (g := (2 * (oa (S0 6) (S0 1 0).toNat + nv u b m) : Nat)) (z1 := 2 * (m : Int)) (z2 := 2 * (m : Int) + 1) (z3 := 0) (z4 := c)
  refine ⟨eqx_adE a1, by rw [adE_eqx 28 (by decide)]; exact a2, by rw [adE_eqx 29 (by decide)]; exact a3, ?_, fun j j0 j1 js => ?_, fun v v0 v1 vu vb => ?_⟩
  · simp only [nv]; rw [if_neg hs, ← Nat.add_assoc]
    exact PE_s a4 (by omega) (by omega) (by omega) (by omega) hc
  · have hl := oa_lt (Sh := S0 6) (i := j.toNat) (j := (S0 1 0).toNat) (by omega) (by rw [Int.toNat_of_nonneg j0]; exact js)
    rw [adE_old (by omega) (by decide), adE_old (by omega) (by decide), adE_old (by omega) (by decide), adE_old (by omega) (by decide)]
    exact a5 j j0 j1 js
  · by_cases e : v = m
    · have e1 : (2 * (oa (S0 6) (S0 1 0).toNat + nv u b v.toNat : Nat) : Int) = (2 * (oa (S0 6) (S0 1 0).toNat + nv u b m) : Nat) := by rw [e, Int.toNat_natCast]; omega
      rw [e1, b1, b2, b3, b4, e]
      exact ⟨rfl, rfl, rfl, rfl⟩
    · have hl := nv_lt (a := u) (b := b) (i := v.toNat) (j := m) (by omega) (by rw [Int.toNat_of_nonneg v0]; omega)
      rw [adE_old (by omega) (by decide), adE_old (by omega) (by decide), adE_old (by omega) (by decide), adE_old (by omega) (by decide)]
      exact a6 v v0 (by omega) vu vb
theorem pr2_end {S0 S : Nat → Int → Int} {u b c : Int} (hG : GIs S0) (hu : 0 ≤ u ∧ u < S0 0 0) (hb : 0 ≤ b ∧ b < S0 0 0) (hc : 0 ≤ c ∧ c ≤ 20) (h : pr2 S0 S u b c (S0 0 0).toNat) : FJ S u b c 0 0 := by
  obtain ⟨a1, a2, a3, a4, a5, a6⟩ := h
  have g : ∀ k, k < 16 → S k = S0 k := fun k hk => a1 k (by simp; omega)
  have ho := oa_le (Sh := S0 6) (S0 1 0).toNat
  have hn := nv_le (a := u) (b := b) (S0 0 0).toNat
  have hg0 := hG.1
  have hg1 := hG.2.1
  have hpa : pa (oa (S0 6) (S0 1 0).toNat + nv u b (S0 0 0).toNat) (S 21) (S 22) (S 23) := fun j j0 j1 => ⟨(a4.2 j j0 j1).1, (a4.2 j j0 j1).2.1, (a4.2 j j0 j1).2.2.1⟩
  have hz : ∀ w : Int → Int, gs (oa (S0 6) (S0 1 0).toNat + nv u b (S0 0 0).toNat) (S 24) w = 0 := fun w => by
    unfold gs
    refine Eq.trans (sm_congr (g := fun _ => 0) _ (fun j j0 j1 => ?_)) (sm_zero _)
    rw [(a4.2 j j0 j1).2.2.2.1, Int.zero_mul]
  unfold FJ FIz Mz
  rw [g 0 (by decide), g 1 (by decide), g 2 (by decide), g 3 (by decide), g 4 (by decide), g 6 (by decide)]
  refine ⟨⟨⟨fun k k0 k1 so => ⟨(a5 k k0 k1 so).1, (a5 k k0 k1 so).2.1, (a5 k k0 k1 so).2.2.1⟩, fun v v0 v1 va vb => ⟨(a6 v v0 v1 va vb).1, (a6 v v0 v1 va vb).2.1, (a6 v v0 v1 va vb).2.2.1⟩, hpa⟩, fun x x0 x1 => ?_, ⟨fun k k0 k1 so => ?_, fun v v0 v1 va vb => ?_⟩, fun w => by rw [hz]; simp, hz _, fun _ => 0, by omega, fun x x0 x1 => ?_, fun x x0 x1 hx => ?_⟩, a4.1, a2, a3, fun j j0 j1 => ?_⟩
  · have hj := a4.2 (x / 2) (by omega) (by omega)
    rcases (show x = 2 * (x / 2) ∨ x = 2 * (x / 2) + 1 by omega) with e | e
    · rw [e]; omega
    · rw [e, hj.2.2.2.1]; omega
  · rw [(a5 k k0 k1 so).2.2.2, (a4.2 _ (by omega) (ja_in (a := u) (b := b) k0 k1 so)).2.2.2.1]; rfl
  · rw [(a6 v v0 v1 va vb).2.2.2, (a4.2 _ (by omega) (jn_in v0 v1 va vb)).2.2.2.1]; omega
  · have hj := a4.2 (x / 2) (by omega) (by omega)
    rcases (show x = 2 * (x / 2) ∨ x = 2 * (x / 2) + 1 by omega) with e | e
    · rw [e]; omega
    · rw [e, hj.1, hj.2.1, hj.2.2.1]; omega
  · have hj := a4.2 (x / 2) (by omega) (by omega)
    rcases (show x = 2 * (x / 2) ∨ x = 2 * (x / 2) + 1 by omega) with e | e
    · show (0 : Int) ≤ S 23 x + 0
      rw [e]; omega
    · rw [e, hj.2.2.2.1] at hx; omega
  · have hj := a4.2 j j0 j1
    omega

set_option maxRecDepth 100000 in
set_option maxHeartbeats 4000000 in
theorem lo_F_prep2 {l : Launch} {D : va_G} {a : Nat → Nat} {ki kz kl kq : ClassId} {p : Program} {e : Env} {s : State} {m : MethodId} {args : Array Value} {below : List Frame} {meth : Method} {c : Code} {S0 : Nat → Int → Int} {u b by_ : Int} (hG : GIs S0) (hu : 0 ≤ u ∧ u < S0 0 0) (hb : 0 ≤ b ∧ b < S0 0 0) (hby : by_ = 0 ∨ by_ = 1) (C : CX p s m args c b_F_prepare 5 "NextPaths$Flow" TT D cls (tyz ki kz kl kq)) (hr : meth.sig.returnType = none) (hk : meth.locks = false) : ∀ (j k : Nat) (S : Nat → Int → Int), k ≤ (S0 0 0).toNat → (S0 0 0).toNat ≤ k + j → pr2 S0 S u b (if by_ = 1 then 1 else 20) k → GG p l e rm_F_prepare s m args below meth c D cls (adr (wX a ki kz kl kq S0)) 5 0 0 (MQ below (QcW D cls (wX a ki kz kl kq) S0 (pV fun S' => eqx [21, 22, 23, 24, 27, 28, 29] S0 S' ∧ FJ S' u b (if by_ = 1 then 1 else 20) 0 0)) args s 0 0 (adr (wX a ki kz kl kq S0))) (wX a ki kz kl kq) S [(4, .int (iI (k : Int))), (0, .ref (a 27)), (1, .int (iI u)), (2, .int (iI b)), (3, .int (iI by_))] 99 [] := by
  intro j
  induction j with
  | zero =>
    intro k S hk1 hk2 hI
    have e0 : S 0 0 = S0 0 0 := by rw [hI.1 0 (by decide)]
    have hn8 := hG.1
    have hn20 := hG.2.1
    have ho := oa_le (Sh := S0 6) (S0 1 0).toNat
    have hnv := nv_le (a := u) (b := b) k
    refine g_iload C d_F_prepare_99 rfl rfl ?_
    refine g_aload_n C d_F_prepare_101 rfl rfl ?_
    refine g_get C 27 0 i_F wX_27 rfl (by decide) k_F_30 rfl rfl d_F_prepare_102 rfl ?_
    refine g_getN C 1 0 i_G wX_1 rfl (by decide) k_F_73 rfl rfl d_F_prepare_105 rfl ?_
    refine g_v (z' := (S0 0 0)) e0 ?_
    refine g_icmp_ge (tgt := 154) C d_F_prepare_108 (by decide) rfl (by omega) (by omega) (fun h108 => ?_) (fun h108 => ?_)
    · refine g_vret C hr hk d_F_prepare_154 ⟨rfl, ?_⟩
      have hk : k = (S0 0 0).toNat := by omega
      subst hk
      exact ⟨hI.1, pr2_end hG hu hb (by split <;> omega) hI⟩
    · exact absurd h108 (by omega)
  | succ j ih =>
    intro k S hk1 hk2 hI
    have e0 : S 0 0 = S0 0 0 := by rw [hI.1 0 (by decide)]
    have hn8 := hG.1
    have hn20 := hG.2.1
    have ho := oa_le (Sh := S0 6) (S0 1 0).toNat
    have hnv := nv_le (a := u) (b := b) k
    refine g_iload C d_F_prepare_99 rfl rfl ?_
    refine g_aload_n C d_F_prepare_101 rfl rfl ?_
    refine g_get C 27 0 i_F wX_27 rfl (by decide) k_F_30 rfl rfl d_F_prepare_102 rfl ?_
    refine g_getN C 1 0 i_G wX_1 rfl (by decide) k_F_73 rfl rfl d_F_prepare_105 rfl ?_
    refine g_v (z' := (S0 0 0)) e0 ?_
    refine g_icmp_ge (tgt := 154) C d_F_prepare_108 (by decide) rfl (by omega) (by omega) (fun h108 => ?_) (fun h108 => ?_)
    · refine g_vret C hr hk d_F_prepare_154 ⟨rfl, ?_⟩
      have hk : k = (S0 0 0).toNat := by omega
      subst hk
      exact ⟨hI.1, pr2_end hG hu hb (by split <;> omega) hI⟩
    · refine g_iload C d_F_prepare_111 rfl rfl ?_
      refine g_iload_n C d_F_prepare_113 rfl rfl ?_
      refine g_icmp_eq (tgt := 148) C d_F_prepare_114 (by decide) rfl (by omega) (by omega) (fun h114 => ?_) (fun h114 => ?_)
      · obtain ⟨k2, e_k2⟩ : ∃ z : Int, z = (k : Int) + 1 := ⟨_, rfl⟩
        refine g_iinc (q := 0) (z := k2) (lv' := [(4, .int (iI k2)), (0, .ref (a 27)), (1, .int (iI u)), (2, .int (iI b)), (3, .int (iI by_))]) C d_F_prepare_148 rfl e_k2.symm (by decide) rfl rfl ?_
        refine g_goto (tgt := 99) C d_F_prepare_151 (by decide) ?_
        refine GG.lvs (lv' := [(4, .int (iI ((k + 1 : Nat) : Int))), (0, .ref (a 27)), (1, .int (iI u)), (2, .int (iI b)), (3, .int (iI by_))]) (by rw [show k2 = ((k + 1 : Nat) : Int) by omega]; simp [lk]) ?_
        first
          | exact ih (k + 1) _ (by omega) (by omega) (pr2_skip hI (by omega))
          | (refine ih (k + 1) _ (by omega) (by omega) ?_
             have q := pr2_add hI (by omega) (by omega) (by split <;> omega)
             subst hp3
             first
               | (rw [if_pos (show by_ = 1 by omega)] at q ⊢; exact q)
               | (rw [if_neg (show ¬ by_ = 1 by omega)] at q ⊢; exact q))
      · refine g_iload C d_F_prepare_117 rfl rfl ?_
        refine g_iload_n C d_F_prepare_119 rfl rfl ?_
        refine g_icmp_eq (tgt := 148) C d_F_prepare_120 (by decide) rfl (by omega) (by omega) (fun h120 => ?_) (fun h120 => ?_)
        · obtain ⟨k2, e_k2⟩ : ∃ z : Int, z = (k : Int) + 1 := ⟨_, rfl⟩
          refine g_iinc (q := 0) (z := k2) (lv' := [(4, .int (iI k2)), (0, .ref (a 27)), (1, .int (iI u)), (2, .int (iI b)), (3, .int (iI by_))]) C d_F_prepare_148 rfl e_k2.symm (by decide) rfl rfl ?_
          refine g_goto (tgt := 99) C d_F_prepare_151 (by decide) ?_
          refine GG.lvs (lv' := [(4, .int (iI ((k + 1 : Nat) : Int))), (0, .ref (a 27)), (1, .int (iI u)), (2, .int (iI b)), (3, .int (iI by_))]) (by rw [show k2 = ((k + 1 : Nat) : Int) by omega]; simp [lk]) ?_
          first
            | exact ih (k + 1) _ (by omega) (by omega) (pr2_skip hI (by omega))
            | (refine ih (k + 1) _ (by omega) (by omega) ?_
               have q := pr2_add hI (by omega) (by omega) (by split <;> omega)
               subst hp3
               first
                 | (rw [if_pos (show by_ = 1 by omega)] at q ⊢; exact q)
                 | (rw [if_neg (show ¬ by_ = 1 by omega)] at q ⊢; exact q))
        · refine g_aload_n C d_F_prepare_123 rfl rfl ?_
          refine g_iload C d_F_prepare_124 rfl rfl ?_
          refine g_runI (wX_fix a ki kz kl kq) rfl (rn_S C (m_F_entry) 1 kc_F_entry k_F_45 ks_F_entry kn_F hy_F_entry ⟨rfl, rfl⟩ ⟨by decide, by decide⟩ ⟨Nat.le_refl _, Nat.le_refl _⟩ rfl rfl (Nat.le_of_ble_eq_true rfl) d_F_prepare_126) (fun r1 S1 hp1 => ?_)
          obtain ⟨hS1, rfl⟩ := hp1
          refine GG.at hS1 ?_
          refine g_iload C d_F_prepare_129 rfl rfl ?_
          refine g_runI (wX_fix a ki kz kl kq) rfl (rn_S C (m_F_exit) 1 kc_F_exit k_F_38 ks_F_exit kn_F hy_F_exit ⟨rfl, rfl⟩ ⟨by decide, by decide⟩ ⟨Nat.le_refl _, Nat.le_refl _⟩ rfl rfl (Nat.le_of_ble_eq_true rfl) d_F_prepare_131) (fun r2 S2 hp2 => ?_)
          obtain ⟨hS2, rfl⟩ := hp2
          refine GG.at hS2 ?_
          refine g_iconst (z := 0) C d_F_prepare_134 rfl rfl ?_
          refine g_iload_n C d_F_prepare_135 rfl rfl ?_
          refine g_if_eq (tgt := 143) C d_F_prepare_136 (by decide) rfl (by omega) (fun h136 => ?_) (fun h136 => ?_)
          · refine g_bipush (z := 20) C d_F_prepare_143 rfl (by decide) ?_
            refine g_runV (wX_fix a ki kz kl kq) rfl (rn_V C (m_F_addEdge (g := (2 * (oa (S0 6) (S0 1 0).toNat + nv u b k) : Nat)) hI.2.2.2.1.1 (by omega)) 27 4 wX_27 rfl rfl kc_F_addEdge k_F_69 ki_F_addEdge kx_F_addEdge kn_F hy_F_addEdge ⟨rfl, rfl⟩ ⟨by decide, by decide⟩ ⟨Nat.le_refl _, Nat.le_refl _⟩ rfl rfl (Nat.le_of_ble_eq_true rfl) d_F_prepare_145) (fun S3 hp3 => ?_)
            obtain ⟨k2, e_k2⟩ : ∃ z : Int, z = (k : Int) + 1 := ⟨_, rfl⟩
            refine g_iinc (q := 0) (z := k2) (lv' := [(4, .int (iI k2)), (0, .ref (a 27)), (1, .int (iI u)), (2, .int (iI b)), (3, .int (iI by_))]) C d_F_prepare_148 rfl e_k2.symm (by decide) rfl rfl ?_
            refine g_goto (tgt := 99) C d_F_prepare_151 (by decide) ?_
            refine GG.lvs (lv' := [(4, .int (iI ((k + 1 : Nat) : Int))), (0, .ref (a 27)), (1, .int (iI u)), (2, .int (iI b)), (3, .int (iI by_))]) (by rw [show k2 = ((k + 1 : Nat) : Int) by omega]; simp [lk]) ?_
            first
              | exact ih (k + 1) _ (by omega) (by omega) (pr2_skip hI (by omega))
              | (refine ih (k + 1) _ (by omega) (by omega) ?_
                 have q := pr2_add hI (by omega) (by omega) (by split <;> omega)
                 subst hp3
                 first
                   | (rw [if_pos (show by_ = 1 by omega)] at q ⊢; exact q)
                   | (rw [if_neg (show ¬ by_ = 1 by omega)] at q ⊢; exact q))
          · refine g_iconst (z := 1) C d_F_prepare_139 rfl rfl ?_
            refine g_goto (tgt := 145) C d_F_prepare_140 (by decide) ?_
            refine g_runV (wX_fix a ki kz kl kq) rfl (rn_V C (m_F_addEdge (g := (2 * (oa (S0 6) (S0 1 0).toNat + nv u b k) : Nat)) hI.2.2.2.1.1 (by omega)) 27 4 wX_27 rfl rfl kc_F_addEdge k_F_69 ki_F_addEdge kx_F_addEdge kn_F hy_F_addEdge ⟨rfl, rfl⟩ ⟨by decide, by decide⟩ ⟨Nat.le_refl _, Nat.le_refl _⟩ rfl rfl (Nat.le_of_ble_eq_true rfl) d_F_prepare_145) (fun S3 hp3 => ?_)
            obtain ⟨k2, e_k2⟩ : ∃ z : Int, z = (k : Int) + 1 := ⟨_, rfl⟩
            refine g_iinc (q := 0) (z := k2) (lv' := [(4, .int (iI k2)), (0, .ref (a 27)), (1, .int (iI u)), (2, .int (iI b)), (3, .int (iI by_))]) C d_F_prepare_148 rfl e_k2.symm (by decide) rfl rfl ?_
            refine g_goto (tgt := 99) C d_F_prepare_151 (by decide) ?_
            refine GG.lvs (lv' := [(4, .int (iI ((k + 1 : Nat) : Int))), (0, .ref (a 27)), (1, .int (iI u)), (2, .int (iI b)), (3, .int (iI by_))]) (by rw [show k2 = ((k + 1 : Nat) : Int) by omega]; simp [lk]) ?_
            first
              | exact ih (k + 1) _ (by omega) (by omega) (pr2_skip hI (by omega))
              | (refine ih (k + 1) _ (by omega) (by omega) ?_
                 have q := pr2_add hI (by omega) (by omega) (by split <;> omega)
                 subst hp3
                 first
                   | (rw [if_pos (show by_ = 1 by omega)] at q ⊢; exact q)
                   | (rw [if_neg (show ¬ by_ = 1 by omega)] at q ⊢; exact q))

set_option maxRecDepth 100000 in
set_option maxHeartbeats 4000000 in
theorem lo_F_prep1 {l : Launch} {D : va_G} {a : Nat → Nat} {ki kz kl kq : ClassId} {p : Program} {e : Env} {s : State} {m : MethodId} {args : Array Value} {below : List Frame} {meth : Method} {c : Code} {S0 : Nat → Int → Int} {u b by_ : Int} (hG : GIs S0) (hu : 0 ≤ u ∧ u < S0 0 0) (hb : 0 ≤ b ∧ b < S0 0 0) (hby : by_ = 0 ∨ by_ = 1) (C : CX p s m args c b_F_prepare 5 "NextPaths$Flow" TT D cls (tyz ki kz kl kq)) (hr : meth.sig.returnType = none) (hk : meth.locks = false) : ∀ (j k : Nat) (S : Nat → Int → Int), k ≤ (S0 1 0).toNat → (S0 1 0).toNat ≤ k + j → pr1 S0 S u b k → GG p l e rm_F_prepare s m args below meth c D cls (adr (wX a ki kz kl kq S0)) 5 0 0 (MQ below (QcW D cls (wX a ki kz kl kq) S0 (pV fun S' => eqx [21, 22, 23, 24, 27, 28, 29] S0 S' ∧ FJ S' u b (if by_ = 1 then 1 else 20) 0 0)) args s 0 0 (adr (wX a ki kz kl kq S0))) (wX a ki kz kl kq) S [(4, .int (iI (k : Int))), (0, .ref (a 27)), (1, .int (iI u)), (2, .int (iI b)), (3, .int (iI by_))] 24 [] := by
  intro j
  induction j with
  | zero =>
    intro k S hk1 hk2 hI
    have e1 : S 1 0 = S0 1 0 := by rw [hI.1 1 (by decide)]
    have hn8 := hG.1
    have hn20 := hG.2.1
    have ho := oa_le (Sh := S0 6) k
    have hok := hG.2.2.1.2.2.1 k
    have e6 : S 6 k = S0 6 k := by rw [hI.1 6 (by decide)]
    have e2 : S 2 k = S0 2 k := by rw [hI.1 2 (by decide)]
    have e3 : S 3 k = S0 3 k := by rw [hI.1 3 (by decide)]
    have e4 : S 4 k = S0 4 k := by rw [hI.1 4 (by decide)]
    refine g_iload C d_F_prepare_24 rfl rfl ?_
    refine g_aload_n C d_F_prepare_26 rfl rfl ?_
    refine g_get C 27 0 i_F wX_27 rfl (by decide) k_F_30 rfl rfl d_F_prepare_27 rfl ?_
    refine g_getN C 1 1 i_G wX_1 rfl (by decide) k_F_51 rfl rfl d_F_prepare_30 rfl ?_
    refine g_v (z' := (S0 1 0)) e1 ?_
    refine g_icmp_ge (tgt := 96) C d_F_prepare_33 (by decide) rfl (by omega) (by omega) (fun h33 => ?_) (fun h33 => ?_)
    · refine g_iconst (z := 0) C d_F_prepare_96 rfl rfl ?_
      refine g_nm (fun k0 e_k0 => ?_)
      refine g_istore (lv' := [(4, .int (iI k0)), (0, .ref (a 27)), (1, .int (iI u)), (2, .int (iI b)), (3, .int (iI by_))]) C d_F_prepare_97 (by decide) rfl rfl ?_
      have hkk : k = (S0 1 0).toNat := by omega
      subst hkk
      subst e_k0
      refine GG.lvs (lv' := [(4, .int (iI ((0 : Nat) : Int))), (0, .ref (a 27)), (1, .int (iI u)), (2, .int (iI b)), (3, .int (iI by_))]) (by simp [lk]) ?_
      exact lo_F_prep2 hG hu hb hby C hr hk _ 0 S (by omega) (Nat.le_add_left _ _) (pr2_0 hI)
    · exact absurd h33 (by omega)
  | succ j ih =>
    intro k S hk1 hk2 hI
    have e1 : S 1 0 = S0 1 0 := by rw [hI.1 1 (by decide)]
    have hn8 := hG.1
    have hn20 := hG.2.1
    have ho := oa_le (Sh := S0 6) k
    have hok := hG.2.2.1.2.2.1 k
    have e6 : S 6 k = S0 6 k := by rw [hI.1 6 (by decide)]
    have e2 : S 2 k = S0 2 k := by rw [hI.1 2 (by decide)]
    have e3 : S 3 k = S0 3 k := by rw [hI.1 3 (by decide)]
    have e4 : S 4 k = S0 4 k := by rw [hI.1 4 (by decide)]
    refine g_iload C d_F_prepare_24 rfl rfl ?_
    refine g_aload_n C d_F_prepare_26 rfl rfl ?_
    refine g_get C 27 0 i_F wX_27 rfl (by decide) k_F_30 rfl rfl d_F_prepare_27 rfl ?_
    refine g_getN C 1 1 i_G wX_1 rfl (by decide) k_F_51 rfl rfl d_F_prepare_30 rfl ?_
    refine g_v (z' := (S0 1 0)) e1 ?_
    refine g_icmp_ge (tgt := 96) C d_F_prepare_33 (by decide) rfl (by omega) (by omega) (fun h33 => ?_) (fun h33 => ?_)
    · refine g_iconst (z := 0) C d_F_prepare_96 rfl rfl ?_
      refine g_nm (fun k0 e_k0 => ?_)
      refine g_istore (lv' := [(4, .int (iI k0)), (0, .ref (a 27)), (1, .int (iI u)), (2, .int (iI b)), (3, .int (iI by_))]) C d_F_prepare_97 (by decide) rfl rfl ?_
      have hkk : k = (S0 1 0).toNat := by omega
      subst hkk
      subst e_k0
      refine GG.lvs (lv' := [(4, .int (iI ((0 : Nat) : Int))), (0, .ref (a 27)), (1, .int (iI u)), (2, .int (iI b)), (3, .int (iI by_))]) (by simp [lk]) ?_
      exact lo_F_prep2 hG hu hb hby C hr hk _ 0 S (by omega) (Nat.le_add_left _ _) (pr2_0 hI)
    · refine g_aload_n C d_F_prepare_36 rfl rfl ?_
      refine g_get C 27 0 i_F wX_27 rfl (by decide) k_F_30 rfl rfl d_F_prepare_37 rfl ?_
      refine g_getN C 1 6 i_G wX_1 rfl (by decide) k_F_56 rfl rfl d_F_prepare_40 rfl ?_
      refine g_iload C d_F_prepare_43 rfl rfl ?_
      refine g_zald C 6 1 wX_6 rfl (by omega) (by omega) (by decide) d_F_prepare_45 rfl ?_
      refine g_v (z' := (S0 6 k)) e6 ?_
      refine g_if_ne (tgt := 90) C d_F_prepare_46 (by decide) rfl (by omega) (fun h46 => ?_) (fun h46 => ?_)
      · obtain ⟨k2, e_k2⟩ : ∃ z : Int, z = (k : Int) + 1 := ⟨_, rfl⟩
        refine g_iinc (q := 0) (z := k2) (lv' := [(4, .int (iI k2)), (0, .ref (a 27)), (1, .int (iI u)), (2, .int (iI b)), (3, .int (iI by_))]) C d_F_prepare_90 rfl e_k2.symm (by decide) rfl rfl ?_
        refine g_goto (tgt := 24) C d_F_prepare_93 (by decide) ?_
        refine GG.lvs (lv' := [(4, .int (iI ((k + 1 : Nat) : Int))), (0, .ref (a 27)), (1, .int (iI u)), (2, .int (iI b)), (3, .int (iI by_))]) (by rw [show k2 = ((k + 1 : Nat) : Int) by omega]; simp [lk]) ?_
        first
          | exact ih (k + 1) _ (by omega) (by omega) (pr1_skip hI (by omega))
          | (subst hp3; exact ih (k + 1) _ (by omega) (by omega) (pr1_add hI (by omega) (by omega) (by omega) (by omega)))
      · refine g_aload_n C d_F_prepare_49 rfl rfl ?_
        refine g_aload_n C d_F_prepare_50 rfl rfl ?_
        refine g_get C 27 0 i_F wX_27 rfl (by decide) k_F_30 rfl rfl d_F_prepare_51 rfl ?_
        refine g_getN C 1 2 i_G wX_1 rfl (by decide) k_F_60 rfl rfl d_F_prepare_54 rfl ?_
        refine g_iload C d_F_prepare_57 rfl rfl ?_
        refine g_iald C 2 0 wX_2 rfl (by omega) (by omega) (by decide) d_F_prepare_59 rfl ?_
        refine g_v (z' := (S0 2 k)) e2 ?_
        refine g_runI (wX_fix a ki kz kl kq) rfl (rn_S C (m_F_exit) 1 kc_F_exit k_F_38 ks_F_exit kn_F hy_F_exit ⟨rfl, rfl⟩ ⟨by decide, by decide⟩ ⟨Nat.le_refl _, Nat.le_refl _⟩ rfl rfl (Nat.le_of_ble_eq_true rfl) d_F_prepare_60) (fun r2 S2 hp2 => ?_)
        obtain ⟨hS2, rfl⟩ := hp2
        refine GG.at hS2 ?_
        refine g_aload_n C d_F_prepare_63 rfl rfl ?_
        refine g_get C 27 0 i_F wX_27 rfl (by decide) k_F_30 rfl rfl d_F_prepare_64 rfl ?_
        refine g_getN C 1 3 i_G wX_1 rfl (by decide) k_F_63 rfl rfl d_F_prepare_67 rfl ?_
        refine g_iload C d_F_prepare_70 rfl rfl ?_
        refine g_iald C 3 0 wX_3 rfl (by omega) (by omega) (by decide) d_F_prepare_72 rfl ?_
        refine g_v (z' := (S0 3 k)) e3 ?_
        refine g_runI (wX_fix a ki kz kl kq) rfl (rn_S C (m_F_entry) 1 kc_F_entry k_F_45 ks_F_entry kn_F hy_F_entry ⟨rfl, rfl⟩ ⟨by decide, by decide⟩ ⟨Nat.le_refl _, Nat.le_refl _⟩ rfl rfl (Nat.le_of_ble_eq_true rfl) d_F_prepare_73) (fun r1 S1 hp1 => ?_)
        obtain ⟨hS1, rfl⟩ := hp1
        refine GG.at hS1 ?_
        refine g_aload_n C d_F_prepare_76 rfl rfl ?_
        refine g_get C 27 0 i_F wX_27 rfl (by decide) k_F_30 rfl rfl d_F_prepare_77 rfl ?_
        refine g_getN C 1 4 i_G wX_1 rfl (by decide) k_F_66 rfl rfl d_F_prepare_80 rfl ?_
        refine g_iload C d_F_prepare_83 rfl rfl ?_
        refine g_iald C 4 0 wX_4 rfl (by omega) (by omega) (by decide) d_F_prepare_85 rfl ?_
        refine g_v (z' := (S0 4 k)) e4 ?_
        refine g_iconst (z := 1) C d_F_prepare_86 rfl rfl ?_
        refine g_runV (wX_fix a ki kz kl kq) rfl (rn_V C (m_F_addEdge (g := (2 * oa (S0 6) k : Nat)) hI.2.2.2.1.1 (by omega)) 27 4 wX_27 rfl rfl kc_F_addEdge k_F_69 ki_F_addEdge kx_F_addEdge kn_F hy_F_addEdge ⟨rfl, rfl⟩ ⟨by decide, by decide⟩ ⟨Nat.le_refl _, Nat.le_refl _⟩ rfl rfl (Nat.le_of_ble_eq_true rfl) d_F_prepare_87) (fun S3 hp3 => ?_)
        obtain ⟨k2, e_k2⟩ : ∃ z : Int, z = (k : Int) + 1 := ⟨_, rfl⟩
        refine g_iinc (q := 0) (z := k2) (lv' := [(4, .int (iI k2)), (0, .ref (a 27)), (1, .int (iI u)), (2, .int (iI b)), (3, .int (iI by_))]) C d_F_prepare_90 rfl e_k2.symm (by decide) rfl rfl ?_
        refine g_goto (tgt := 24) C d_F_prepare_93 (by decide) ?_
        refine GG.lvs (lv' := [(4, .int (iI ((k + 1 : Nat) : Int))), (0, .ref (a 27)), (1, .int (iI u)), (2, .int (iI b)), (3, .int (iI by_))]) (by rw [show k2 = ((k + 1 : Nat) : Int) by omega]; simp [lk]) ?_
        first
          | exact ih (k + 1) _ (by omega) (by omega) (pr1_skip hI (by omega))
          | (subst hp3; exact ih (k + 1) _ (by omega) (by omega) (pr1_add hI (by omega) (by omega) (by omega) (by omega)))

set_option maxRecDepth 100000 in
set_option maxHeartbeats 4000000 in
theorem m_F_prepare {l : Launch} {D : va_G} {a : Nat → Nat} {ki kz kl kq : ClassId} {S : Nat → Int → Int}  {u b by_ : Int} (hG : GIs S) (hu : 0 ≤ u ∧ u < S 0 0) (hb : 0 ≤ b ∧ b < S 0 0) (hby : by_ = 0 ∨ by_ = 1) : MX l D a ki kz kl kq y_F_prepare b_F_prepare 5 none rm_F_prepare [.ref (a 27), .int (iI u), .int (iI b), .int (iI by_)] S (pV fun S' => eqx [21, 22, 23, 24, 27, 28, 29] S S' ∧ FJ S' u b (if by_ = 1 then 1 else 20) 0 0) := by
  refine MM.go b_F_prepare 5 none "NextPaths$Flow" [(0, .ref (a 27)), (1, .int (iI u)), (2, .int (iI b)), (3, .int (iI by_))] (by decide) rfl rfl (Nat.le_of_ble_eq_true rfl) ?_
  intro p e s m args below meth c C hr hk
  refine g_aload_n C d_F_prepare_0 rfl rfl ?_
  refine g_iconst (z := 0) C d_F_prepare_1 rfl rfl ?_
  refine g_put (ty := .int) C 27 7 ty_F i_F ty_F_ok n_F wX_27 rfl (by decide) k_F_34 rfl rfl (by decide +kernel) rfl rfl (Nat.le_of_ble_eq_true rfl) wX_p27_7 d_F_prepare_2 rfl ?_
  refine g_aload_n C d_F_prepare_5 rfl rfl ?_
  refine g_iload_n C d_F_prepare_6 rfl rfl ?_
  refine g_runI (wX_fix a ki kz kl kq) rfl (rn_S C (m_F_exit) 1 kc_F_exit k_F_38 ks_F_exit kn_F hy_F_exit ⟨rfl, rfl⟩ ⟨by decide, by decide⟩ ⟨Nat.le_refl _, Nat.le_refl _⟩ rfl rfl (Nat.le_of_ble_eq_true rfl) d_F_prepare_7) (fun r1 S1 hp1 => ?_)
  obtain ⟨hS1, rfl⟩ := hp1
  refine GG.at hS1 ?_
  refine g_put (ty := .int) C 27 8 ty_F i_F ty_F_ok n_F wX_27 rfl (by decide) k_F_42 rfl rfl (by decide +kernel) rfl rfl (Nat.le_of_ble_eq_true rfl) wX_p27_8 d_F_prepare_10 rfl ?_
  refine g_aload_n C d_F_prepare_13 rfl rfl ?_
  refine g_iload_n C d_F_prepare_14 rfl rfl ?_
  refine g_runI (wX_fix a ki kz kl kq) rfl (rn_S C (m_F_entry) 1 kc_F_entry k_F_45 ks_F_entry kn_F hy_F_entry ⟨rfl, rfl⟩ ⟨by decide, by decide⟩ ⟨Nat.le_refl _, Nat.le_refl _⟩ rfl rfl (Nat.le_of_ble_eq_true rfl) d_F_prepare_15) (fun r2 S2 hp2 => ?_)
  obtain ⟨hS2, rfl⟩ := hp2
  refine GG.at hS2 ?_
  refine g_put (ty := .int) C 27 9 ty_F i_F ty_F_ok n_F wX_27 rfl (by decide) k_F_48 rfl rfl (by decide +kernel) rfl rfl (Nat.le_of_ble_eq_true rfl) wX_p27_9 d_F_prepare_18 rfl ?_
  refine g_iconst (z := 0) C d_F_prepare_21 rfl rfl ?_
  refine g_nm (fun k0 e_k0 => ?_)
  refine g_istore (lv' := [(4, .int (iI k0)), (0, .ref (a 27)), (1, .int (iI u)), (2, .int (iI b)), (3, .int (iI by_))]) C d_F_prepare_22 (by decide) rfl rfl ?_
  subst e_k0
  refine GG.lvs (lv' := [(4, .int (iI ((0 : Nat) : Int))), (0, .ref (a 27)), (1, .int (iI u)), (2, .int (iI b)), (3, .int (iI by_))]) (by simp [lk]) ?_
  refine lo_F_prep1 hG hu hb hby C hr hk _ 0 _ (by omega) (Nat.le_add_left _ _) ⟨eqx_us (eqx_us (eqx_us eqx_rf (by simp)) (by simp)) (by simp), rfl, rfl, ⟨rfl, fun j j0 j1 => by simp [oa] at j1; omega⟩, fun j j0 j1 => by omega⟩
end
section
/-! the class: what is asked of the graph -/
set_option maxRecDepth 100000 in
set_option maxHeartbeats 4000000 in
theorem lo_G_shut {l : Launch} {D : va_G} {a : Nat → Nat} {ki kz kl kq : ClassId} {p : Program} {e : Env} {s : State} {m : MethodId} {args : Array Value} {below : List Frame} {meth : Method} {c : Code} {S : Nat → Int → Int} (hn : 0 ≤ S 1 0 ∧ S 1 0 ≤ 20) (h6 : ∀ k, S 6 k = 0 ∨ S 6 k = 1) (C : CX p s m args c b_G_shutArcs 3 "NextPaths$Graph" TT D cls (tyz ki kz kl kq)) (hr : meth.sig.returnType = (some .int)) (hk : meth.locks = false) : ∀ (k i : Nat), i ≤ (S 1 0).toNat → (S 1 0).toNat ≤ i + k → GG p l e rm_G_shutArcs s m args below meth c D cls (adr (wX a ki kz kl kq S)) 3 0 0 (MQ below (QcW D cls (wX a ki kz kl kq) S (pI fun r S' => S' = S ∧ r = sm (S 6) (S 1 0).toNat)) args s 0 0 (adr (wX a ki kz kl kq S))) (wX a ki kz kl kq) S [(2, .int (iI (i : Int))), (1, .int (iI (sm (S 6) i))), (0, .ref (a 1))] 4 [] := by
  intro k
  induction k with
  | zero =>
    intro i hi hk0
    have h01 := h6 i
    have hb0 := sm_nn (f := S 6) i (fun j _ _ => by have := h6 j; omega)
    have hb1 : sm (S 6) i ≤ i := by
      have q := sm_le (f := S 6) (g := fun _ => 1) i (fun j _ _ => by have := h6 j; show S 6 j ≤ 1; omega)
      have q2 : ∀ n : Nat, sm (fun _ => 1) n = n := fun n => by
        induction n with
        | zero => rfl
        | succ n ih => simp only [sm]; omega
      rw [q2] at q; exact q
    refine g_iload_n C d_G_shutArcs_4 rfl rfl ?_
    refine g_aload_n C d_G_shutArcs_5 rfl rfl ?_
    refine g_get C 1 1 i_G wX_1 rfl (by decide) k_G_40 rfl rfl d_G_shutArcs_6 rfl ?_
    refine g_icmp_ge (tgt := 30) C d_G_shutArcs_9 (by decide) rfl (by omega) (by omega) (fun h9 => ?_) (fun h9 => ?_)
    · refine g_iload_n C d_G_shutArcs_30 rfl rfl ?_
      refine g_iret C hr hk d_G_shutArcs_31 ⟨_, rfl, ?_⟩
      have hi2 : i = (S 1 0).toNat := by omega
      subst hi2
      exact ⟨rfl, rfl⟩
    · exact absurd h9 (by omega)
  | succ k ih =>
    intro i hi hk0
    have h01 := h6 i
    have hb0 := sm_nn (f := S 6) i (fun j _ _ => by have := h6 j; omega)
    have hb1 : sm (S 6) i ≤ i := by
      have q := sm_le (f := S 6) (g := fun _ => 1) i (fun j _ _ => by have := h6 j; show S 6 j ≤ 1; omega)
      have q2 : ∀ n : Nat, sm (fun _ => 1) n = n := fun n => by
        induction n with
        | zero => rfl
        | succ n ih => simp only [sm]; omega
      rw [q2] at q; exact q
    refine g_iload_n C d_G_shutArcs_4 rfl rfl ?_
    refine g_aload_n C d_G_shutArcs_5 rfl rfl ?_
    refine g_get C 1 1 i_G wX_1 rfl (by decide) k_G_40 rfl rfl d_G_shutArcs_6 rfl ?_
    refine g_icmp_ge (tgt := 30) C d_G_shutArcs_9 (by decide) rfl (by omega) (by omega) (fun h9 => ?_) (fun h9 => ?_)
    · refine g_iload_n C d_G_shutArcs_30 rfl rfl ?_
      refine g_iret C hr hk d_G_shutArcs_31 ⟨_, rfl, ?_⟩
      have hi2 : i = (S 1 0).toNat := by omega
      subst hi2
      exact ⟨rfl, rfl⟩
    · refine g_aload_n C d_G_shutArcs_12 rfl rfl ?_
      refine g_get C 1 6 i_G wX_1 rfl (by decide) k_G_24 rfl rfl d_G_shutArcs_13 rfl ?_
      refine g_iload_n C d_G_shutArcs_16 rfl rfl ?_
      refine g_zald C 6 1 wX_6 rfl (by omega) (by omega) (by decide) d_G_shutArcs_17 rfl ?_
      refine g_if_eq (tgt := 24) C d_G_shutArcs_18 (by decide) rfl (by omega) (fun h18 => ?_) (fun h18 => ?_)
      · obtain ⟨i2, e_i2⟩ : ∃ z : Int, z = (i : Int) + 1 := ⟨_, rfl⟩
        refine g_iinc (q := 0) (z := i2) (lv' := [(2, .int (iI i2)), (1, .int (iI (sm (S 6) i))), (0, .ref (a 1))]) C d_G_shutArcs_24 rfl e_i2.symm (by decide) rfl rfl ?_
        refine g_goto (tgt := 4) C d_G_shutArcs_27 (by decide) ?_
        refine GG.lvs (lv' := [(2, .int (iI ((i + 1 : Nat) : Int))), (1, .int (iI (sm (S 6) (i + 1)))), (0, .ref (a 1))]) ?_ (ih (i + 1) (by omega) (by omega))
        have q1 : i2 = ((i + 1 : Nat) : Int) := by omega
        subst q1
        first
          | (have q2 : r2 = sm (S 6) (i + 1) := by simp only [sm]; omega
             subst q2; simp [lk])
          | (have q2 : sm (S 6) i = sm (S 6) (i + 1) := by simp only [sm]; omega
             rw [← q2]; simp [lk])
      · obtain ⟨r2, e_r2⟩ : ∃ z : Int, z = (sm (S 6) i) + 1 := ⟨_, rfl⟩
        refine g_iinc (q := 1) (z := r2) (lv' := [(1, .int (iI r2)), (2, .int (iI (i : Int))), (0, .ref (a 1))]) C d_G_shutArcs_21 rfl e_r2.symm (by decide) rfl rfl ?_
        obtain ⟨i2, e_i2⟩ : ∃ z : Int, z = (i : Int) + 1 := ⟨_, rfl⟩
        refine g_iinc (q := 1) (z := i2) (lv' := [(2, .int (iI i2)), (1, .int (iI r2)), (0, .ref (a 1))]) C d_G_shutArcs_24 rfl e_i2.symm (by decide) rfl rfl ?_
        refine g_goto (tgt := 4) C d_G_shutArcs_27 (by decide) ?_
        refine GG.lvs (lv' := [(2, .int (iI ((i + 1 : Nat) : Int))), (1, .int (iI (sm (S 6) (i + 1)))), (0, .ref (a 1))]) ?_ (ih (i + 1) (by omega) (by omega))
        have q1 : i2 = ((i + 1 : Nat) : Int) := by omega
        subst q1
        first
          | (have q2 : r2 = sm (S 6) (i + 1) := by simp only [sm]; omega
             subst q2; simp [lk])
          | (have q2 : sm (S 6) i = sm (S 6) (i + 1) := by simp only [sm]; omega
             rw [← q2]; simp [lk])

set_option maxRecDepth 100000 in
set_option maxHeartbeats 4000000 in
theorem m_G_shutArcs {l : Launch} {D : va_G} {a : Nat → Nat} {ki kz kl kq : ClassId} {S : Nat → Int → Int}  (hn : 0 ≤ S 1 0 ∧ S 1 0 ≤ 20) (h6 : ∀ k, S 6 k = 0 ∨ S 6 k = 1) : MX l D a ki kz kl kq y_G_shutArcs b_G_shutArcs 3 (some .int) rm_G_shutArcs [.ref (a 1)] S (pI fun r S' => S' = S ∧ r = sm (S 6) (S 1 0).toNat) := by
  refine MM.go b_G_shutArcs 3 (some .int) "NextPaths$Graph" [(0, .ref (a 1))] (by decide) rfl rfl (Nat.le_of_ble_eq_true rfl) ?_
  intro p e s m args below meth c C hr hk
  refine g_iconst (z := 0) C d_G_shutArcs_0 rfl rfl ?_
  refine g_nm (fun r0 e_r0 => ?_)
  refine g_istore_n (lv' := [(1, .int (iI r0)), (0, .ref (a 1))]) C d_G_shutArcs_1 (by decide) rfl rfl ?_
  refine g_iconst (z := 0) C d_G_shutArcs_2 rfl rfl ?_
  refine g_nm (fun i0 e_i0 => ?_)
  refine g_istore_n (lv' := [(2, .int (iI i0)), (1, .int (iI r0)), (0, .ref (a 1))]) C d_G_shutArcs_3 (by decide) rfl rfl ?_
  subst e_r0
  subst e_i0
  exact lo_G_shut hn h6 C hr hk _ 0 (by omega) (Nat.le_add_left _ _)

set_option maxRecDepth 100000 in
set_option maxHeartbeats 4000000 in
theorem m_N_clear {l : Launch} {D : va_G} {a : Nat → Nat} {ki kz kl kq : ClassId} {S : Nat → Int → Int}   : MX l D a ki kz kl kq y_N_clear b_N_clear 2 (some .int) rm_N_clear [.ref (a 0)] S (pI fun r S' => r = S 1 0 ∧ S' = us (us (fl (us (us S 0 0 0) 1 0 0) 7 8 0) 31 0 0) 36 0 0) := by
  refine MM.go b_N_clear 2 (some .int) "NextPaths" [(0, .ref (a 0))] (by decide) rfl rfl (Nat.le_of_ble_eq_true rfl) ?_
  intro p e s m args below meth c C hr hk
  refine g_aload_n C d_N_clear_0 rfl rfl ?_
  refine g_get C 0 0 i_N wX_0 rfl (by decide) k_N_12 rfl rfl d_N_clear_1 rfl ?_
  refine g_getN C 1 1 i_G wX_1 rfl (by decide) k_N_55 rfl rfl d_N_clear_4 rfl ?_
  refine g_nm (fun n e_n => ?_)
  refine g_istore_n (lv' := [(1, .int (iI n)), (0, .ref (a 0))]) C d_N_clear_7 (by decide) rfl rfl ?_
  refine g_aload_n C d_N_clear_8 rfl rfl ?_
  refine g_get C 0 0 i_N wX_0 rfl (by decide) k_N_12 rfl rfl d_N_clear_9 rfl ?_
  refine g_runV (wX_fix a ki kz kl kq) rfl (rn_VN C (m_G_empty) 1 0 wX_1 rfl rfl kc_G_empty k_N_59 ki_G_empty kx_G_empty kn_G hy_G_empty ⟨rfl, rfl⟩ ⟨by decide, by decide⟩ ⟨Nat.le_refl _, Nat.le_refl _⟩ rfl rfl (Nat.le_of_ble_eq_true rfl) d_N_clear_12) (fun S1 hp => ?_)
  subst hp
  refine g_aload_n C d_N_clear_15 rfl rfl ?_
  refine g_get C 0 4 i_N wX_0 rfl (by decide) k_N_44 rfl rfl d_N_clear_16 rfl ?_
  refine g_runV (wX_fix a ki kz kl kq) rfl (rn_VN C (m_T_empty) 22 0 wX_22 rfl rfl kc_T_empty k_N_62 ki_T_empty kx_T_empty kn_T hy_T_empty ⟨rfl, rfl⟩ ⟨by decide, by decide⟩ ⟨Nat.le_refl _, Nat.le_refl _⟩ rfl rfl (Nat.le_of_ble_eq_true rfl) d_N_clear_19) (fun S1 hp => ?_)
  subst hp
  refine g_aload_n C d_N_clear_22 rfl rfl ?_
  refine g_get C 0 5 i_N wX_0 rfl (by decide) k_N_51 rfl rfl d_N_clear_23 rfl ?_
  refine g_runV (wX_fix a ki kz kl kq) rfl (rn_VN C (m_B_empty) 24 0 wX_24 rfl rfl kc_B_empty k_N_63 ki_B_empty kx_B_empty kn_B hy_B_empty ⟨rfl, rfl⟩ ⟨by decide, by decide⟩ ⟨Nat.le_refl _, Nat.le_refl _⟩ rfl rfl (Nat.le_of_ble_eq_true rfl) d_N_clear_26) (fun S1 hp => ?_)
  subst hp
  refine g_iload_n C d_N_clear_29 rfl rfl ?_
  refine g_iret C hr hk d_N_clear_30 ⟨_, rfl, ?_⟩
  exact ⟨e_n, rfl⟩

set_option maxRecDepth 100000 in
set_option maxHeartbeats 4000000 in
theorem m_N_node {l : Launch} {D : va_G} {a : Nat → Nat} {ki kz kl kq : ClassId} {S : Nat → Int → Int}  (hn : 0 ≤ S 0 0 ∧ S 0 0 ≤ 8) : MX l D a ki kz kl kq y_N_node b_N_node 1 (some .int) rm_N_node [.ref (a 0)] S (pI fun r S' => (S 0 0 = 8 ∧ r = -3 ∧ S' = S) ∨ (S 0 0 < 8 ∧ r = S 0 0 ∧ S' = us S 0 0 (S 0 0 + 1))) := by
  refine MM.go b_N_node 1 (some .int) "NextPaths" [(0, .ref (a 0))] (by decide) rfl rfl (Nat.le_of_ble_eq_true rfl) ?_
  intro p e s m args below meth c C hr hk
  refine g_aload_n C d_N_node_0 rfl rfl ?_
  refine g_get C 0 0 i_N wX_0 rfl (by decide) k_N_12 rfl rfl d_N_node_1 rfl ?_
  refine g_runI (wX_fix a ki kz kl kq) rfl (rn_VN C (m_G_addNode hn) 1 0 wX_1 rfl rfl kc_G_addNode k_N_64 ki_G_addNode kx_G_addNode kn_G hy_G_addNode ⟨rfl, rfl⟩ ⟨by decide, by decide⟩ ⟨Nat.le_refl _, Nat.le_refl _⟩ rfl rfl (Nat.le_of_ble_eq_true rfl) d_N_node_4) (fun r S1 hp => ?_)
  refine g_iret C hr hk d_N_node_7 ⟨_, rfl, ?_⟩
  exact hp

abbrev twoS (S : Nat → Int → Int) (u v : Int) : Prop := 0 ≤ u ∧ u < S 0 0 ∧ 0 ≤ v ∧ v < S 0 0 ∧ u ≠ v
abbrev wtS (z : Int) : Prop := 0 ≤ z ∧ z ≤ 1000
/-- an arc more -/
def addA (S : Nat → Int → Int) (u v w1 w2 : Int) : Nat → Int → Int := us (us (us (us (us (us (us (us S 2 (S 1 0) u) 3 (S 1 0) v) 4 (S 1 0) w1) 5 (S 1 0) w2) 6 (S 1 0) 0) (8 + u.toNat) (S 7 u) (S 1 0)) 7 u (S 7 u + 1)) 1 0 (S 1 0 + 1)

set_option maxRecDepth 100000 in
set_option maxHeartbeats 4000000 in
theorem m_N_arc {l : Launch} {D : va_G} {a : Nat → Nat} {ki kz kl kq : ClassId} {S : Nat → Int → Int} {u v w1 w2 : Int} (hG : GIs S) (hu : r32 u) (hv : r32 v) (h1 : r32 w1) (h2 : r32 w2) : MX l D a ki kz kl kq y_N_arc b_N_arc 5 (some .int) rm_N_arc [.ref (a 0), .int (iI u), .int (iI v), .int (iI w1), .int (iI w2)] S (pI fun r S' => (¬ (twoS S u v ∧ wtS w1 ∧ wtS w2) ∧ r = -2 ∧ S' = S) ∨ ((twoS S u v ∧ wtS w1 ∧ wtS w2) ∧ ((S 1 0 = 20 ∧ r = -3 ∧ S' = S) ∨ (S 1 0 < 20 ∧ r = S 1 0 ∧ S' = addA S u v w1 w2)))) := by
  refine MM.go b_N_arc 5 (some .int) "NextPaths" [(0, .ref (a 0)), (1, .int (iI u)), (2, .int (iI v)), (3, .int (iI w1)), (4, .int (iI w2))] (by decide) rfl rfl (Nat.le_of_ble_eq_true rfl) ?_
  intro p e s m args below meth c C hr hk
  refine g_aload_n C d_N_arc_0 rfl rfl ?_
  refine g_get C 0 0 i_N wX_0 rfl (by decide) k_N_12 rfl rfl d_N_arc_1 rfl ?_
  refine g_iload_n C d_N_arc_4 rfl rfl ?_
  refine g_iload_n C d_N_arc_5 rfl rfl ?_
  refine g_runI (wX_fix a ki kz kl kq) rfl (rn_VN C (m_G_areTwoNodes hu hv hG.1) 1 2 wX_1 rfl rfl kc_G_areTwoNodes k_N_68 ki_G_areTwoNodes kx_G_areTwoNodes kn_G hy_G_areTwoNodes ⟨rfl, rfl⟩ ⟨by decide, by decide⟩ ⟨Nat.le_refl _, Nat.le_refl _⟩ rfl rfl (Nat.le_of_ble_eq_true rfl) d_N_arc_6) (fun r1 S1 hp1 => ?_)
  obtain ⟨hS1, hp1⟩ := hp1
  refine GG.at hS1 ?_
  refine g_if_eq (tgt := 27) C d_N_arc_9 (by decide) rfl (by omega) (fun h9 => ?_) (fun h9 => ?_)
  · refine g_bipush (z := (-2)) C d_N_arc_27 rfl (by decide) ?_
    refine g_iret C hr hk d_N_arc_29 ⟨_, rfl, ?_⟩
    exact Or.inl ⟨by omega, rfl, rfl⟩
  · refine g_iload_n C d_N_arc_12 rfl rfl ?_
    refine g_runI (wX_fix a ki kz kl kq) rfl (rn_S C (m_N_isWeight h1) 1 kc_N_isWeight k_N_72 ks_N_isWeight kn_N hy_N_isWeight ⟨rfl, rfl⟩ ⟨by decide, by decide⟩ ⟨Nat.le_refl _, Nat.le_refl _⟩ rfl rfl (Nat.le_of_ble_eq_true rfl) d_N_arc_13) (fun r2 S2 hp2 => ?_)
    obtain ⟨hS2, hp2⟩ := hp2
    refine GG.at hS2 ?_
    refine g_if_eq (tgt := 27) C d_N_arc_16 (by decide) rfl (by omega) (fun h16 => ?_) (fun h16 => ?_)
    · refine g_bipush (z := (-2)) C d_N_arc_27 rfl (by decide) ?_
      refine g_iret C hr hk d_N_arc_29 ⟨_, rfl, ?_⟩
      exact Or.inl ⟨by omega, rfl, rfl⟩
    · refine g_iload C d_N_arc_19 rfl rfl ?_
      refine g_runI (wX_fix a ki kz kl kq) rfl (rn_S C (m_N_isWeight h2) 1 kc_N_isWeight k_N_72 ks_N_isWeight kn_N hy_N_isWeight ⟨rfl, rfl⟩ ⟨by decide, by decide⟩ ⟨Nat.le_refl _, Nat.le_refl _⟩ rfl rfl (Nat.le_of_ble_eq_true rfl) d_N_arc_21) (fun r3 S3 hp3 => ?_)
      obtain ⟨hS3, hp3⟩ := hp3
      refine GG.at hS3 ?_
      refine g_if_ne (tgt := 30) C d_N_arc_24 (by decide) rfl (by omega) (fun h24 => ?_) (fun h24 => ?_)
      · have hn8 := hG.1
        have hl := hG.2.2.2 u (by omega) (by omega)
        have hll := lo_len (n := (S 1 0).toNat) (F := S 2) (v := u)
        have hn20 := hG.2.1
        have hl7 : 0 ≤ S 7 u ∧ S 7 u ≤ S 1 0 := by omega
        refine g_aload_n C d_N_arc_30 rfl rfl ?_
        refine g_get C 0 0 i_N wX_0 rfl (by decide) k_N_12 rfl rfl d_N_arc_31 rfl ?_
        refine g_iload_n C d_N_arc_34 rfl rfl ?_
        refine g_iload_n C d_N_arc_35 rfl rfl ?_
        refine g_iload_n C d_N_arc_36 rfl rfl ?_
        refine g_iload C d_N_arc_37 rfl rfl ?_
        refine g_runI (wX_fix a ki kz kl kq) rfl (rn_VN C (m_G_addArc hG.2.1 (by omega) hl7) 1 4 wX_1 rfl rfl kc_G_addArc k_N_76 ki_G_addArc kx_G_addArc kn_G hy_G_addArc ⟨rfl, rfl⟩ ⟨by decide, by decide⟩ ⟨Nat.le_refl _, Nat.le_refl _⟩ rfl rfl (Nat.le_of_ble_eq_true rfl) d_N_arc_39) (fun r4 S4 hp4 => ?_)
        refine g_iret C hr hk d_N_arc_42 ⟨_, rfl, ?_⟩
        exact Or.inr ⟨by omega, hp4⟩
      · refine g_bipush (z := (-2)) C d_N_arc_27 rfl (by decide) ?_
        refine g_iret C hr hk d_N_arc_29 ⟨_, rfl, ?_⟩
        exact Or.inl ⟨by omega, rfl, rfl⟩

set_option maxRecDepth 100000 in
set_option maxHeartbeats 4000000 in
theorem m_N_change {l : Launch} {D : va_G} {a : Nat → Nat} {ki kz kl kq : ClassId} {S : Nat → Int → Int} {k w1 w2 : Int} (hG : GIs S) (hk0 : r32 k) (h1 : r32 w1) (h2 : r32 w2) : MX l D a ki kz kl kq y_N_change b_N_change 5 (some .int) rm_N_change [.ref (a 0), .int (iI k), .int (iI w1), .int (iI w2)] S (pI fun r S' => (¬ ((0 ≤ k ∧ k < S 1 0) ∧ wtS w1 ∧ wtS w2) ∧ r = -2 ∧ S' = S) ∨ (((0 ≤ k ∧ k < S 1 0) ∧ wtS w1 ∧ wtS w2) ∧ r = S 4 k ∧ S' = us (us S 4 k w1) 5 k w2)) := by
  refine MM.go b_N_change 5 (some .int) "NextPaths" [(0, .ref (a 0)), (1, .int (iI k)), (2, .int (iI w1)), (3, .int (iI w2))] (by decide) rfl rfl (Nat.le_of_ble_eq_true rfl) ?_
  intro p e s m args below meth c C hr hk
  refine g_aload_n C d_N_change_0 rfl rfl ?_
  refine g_get C 0 0 i_N wX_0 rfl (by decide) k_N_12 rfl rfl d_N_change_1 rfl ?_
  refine g_iload_n C d_N_change_4 rfl rfl ?_
  refine g_runI (wX_fix a ki kz kl kq) rfl (rn_VN C (m_G_isArc hk0 hG.2.1) 1 1 wX_1 rfl rfl kc_G_isArc k_N_80 ki_G_isArc kx_G_isArc kn_G hy_G_isArc ⟨rfl, rfl⟩ ⟨by decide, by decide⟩ ⟨Nat.le_refl _, Nat.le_refl _⟩ rfl rfl (Nat.le_of_ble_eq_true rfl) d_N_change_5) (fun r1 S1 hp1 => ?_)
  obtain ⟨hS1, hp1⟩ := hp1
  refine GG.at hS1 ?_
  refine g_if_eq (tgt := 25) C d_N_change_8 (by decide) rfl (by omega) (fun h8 => ?_) (fun h8 => ?_)
  · refine g_bipush (z := (-2)) C d_N_change_25 rfl (by decide) ?_
    refine g_iret C hr hk d_N_change_27 ⟨_, rfl, ?_⟩
    exact Or.inl ⟨by omega, rfl, rfl⟩
  · refine g_iload_n C d_N_change_11 rfl rfl ?_
    refine g_runI (wX_fix a ki kz kl kq) rfl (rn_S C (m_N_isWeight h1) 1 kc_N_isWeight k_N_72 ks_N_isWeight kn_N hy_N_isWeight ⟨rfl, rfl⟩ ⟨by decide, by decide⟩ ⟨Nat.le_refl _, Nat.le_refl _⟩ rfl rfl (Nat.le_of_ble_eq_true rfl) d_N_change_12) (fun r2 S2 hp2 => ?_)
    obtain ⟨hS2, hp2⟩ := hp2
    refine GG.at hS2 ?_
    refine g_if_eq (tgt := 25) C d_N_change_15 (by decide) rfl (by omega) (fun h15 => ?_) (fun h15 => ?_)
    · refine g_bipush (z := (-2)) C d_N_change_25 rfl (by decide) ?_
      refine g_iret C hr hk d_N_change_27 ⟨_, rfl, ?_⟩
      exact Or.inl ⟨by omega, rfl, rfl⟩
    · refine g_iload_n C d_N_change_18 rfl rfl ?_
      refine g_runI (wX_fix a ki kz kl kq) rfl (rn_S C (m_N_isWeight h2) 1 kc_N_isWeight k_N_72 ks_N_isWeight kn_N hy_N_isWeight ⟨rfl, rfl⟩ ⟨by decide, by decide⟩ ⟨Nat.le_refl _, Nat.le_refl _⟩ rfl rfl (Nat.le_of_ble_eq_true rfl) d_N_change_19) (fun r3 S3 hp3 => ?_)
      obtain ⟨hS3, hp3⟩ := hp3
      refine GG.at hS3 ?_
      refine g_if_ne (tgt := 28) C d_N_change_22 (by decide) rfl (by omega) (fun h22 => ?_) (fun h22 => ?_)
      · have hn20 := hG.2.1
        refine g_aload_n C d_N_change_28 rfl rfl ?_
        refine g_get C 0 0 i_N wX_0 rfl (by decide) k_N_12 rfl rfl d_N_change_29 rfl ?_
        refine g_getN C 1 4 i_G wX_1 rfl (by decide) k_N_83 rfl rfl d_N_change_32 rfl ?_
        refine g_iload_n C d_N_change_35 rfl rfl ?_
        refine g_iald C 4 0 wX_4 rfl (by omega) (by omega) (by decide) d_N_change_36 rfl ?_
        refine g_nm (fun ol e_ol => ?_)
        refine g_istore (lv' := [(4, .int (iI ol)), (0, .ref (a 0)), (1, .int (iI k)), (2, .int (iI w1)), (3, .int (iI w2))]) C d_N_change_37 (by decide) rfl rfl ?_
        refine g_aload_n C d_N_change_39 rfl rfl ?_
        refine g_get C 0 0 i_N wX_0 rfl (by decide) k_N_12 rfl rfl d_N_change_40 rfl ?_
        refine g_getN C 1 4 i_G wX_1 rfl (by decide) k_N_83 rfl rfl d_N_change_43 rfl ?_
        refine g_iload_n C d_N_change_46 rfl rfl ?_
        refine g_iload_n C d_N_change_47 rfl rfl ?_
        refine g_iast C 4 0 wX_4 rfl (by omega) (by omega) (by decide) wX_s4 d_N_change_48 rfl ?_
        refine g_aload_n C d_N_change_49 rfl rfl ?_
        refine g_get C 0 0 i_N wX_0 rfl (by decide) k_N_12 rfl rfl d_N_change_50 rfl ?_
        refine g_getN C 1 5 i_G wX_1 rfl (by decide) k_N_87 rfl rfl d_N_change_53 rfl ?_
        refine g_iload_n C d_N_change_56 rfl rfl ?_
        refine g_iload_n C d_N_change_57 rfl rfl ?_
        refine g_iast C 5 0 wX_5 rfl (by omega) (by omega) (by decide) wX_s5 d_N_change_58 rfl ?_
        refine g_iload C d_N_change_59 rfl rfl ?_
        refine g_iret C hr hk d_N_change_61 ⟨_, rfl, ?_⟩
        exact Or.inr ⟨by omega, e_ol, rfl⟩
      · refine g_bipush (z := (-2)) C d_N_change_25 rfl (by decide) ?_
        refine g_iret C hr hk d_N_change_27 ⟨_, rfl, ?_⟩
        exact Or.inl ⟨by omega, rfl, rfl⟩

set_option maxRecDepth 100000 in
set_option maxHeartbeats 4000000 in
theorem m_N_shut {l : Launch} {D : va_G} {a : Nat → Nat} {ki kz kl kq : ClassId} {S : Nat → Int → Int} {k v : Int} (hG : GIs S) (hk0 : r32 k) (hv : v = 0 ∨ v = 1) : MX l D a ki kz kl kq y_N_shut b_N_shut 4 (some .int) rm_N_shut [.ref (a 0), .int (iI k), .int (iI v)] S (pI fun r S' => (¬ (0 ≤ k ∧ k < S 1 0) ∧ r = -2 ∧ S' = S) ∨ ((0 ≤ k ∧ k < S 1 0) ∧ r = S 6 k ∧ S' = us S 6 k v)) := by
  refine MM.go b_N_shut 4 (some .int) "NextPaths" [(0, .ref (a 0)), (1, .int (iI k)), (2, .int (iI v))] (by decide) rfl rfl (Nat.le_of_ble_eq_true rfl) ?_
  intro p e s m args below meth c C hr hk
  refine g_aload_n C d_N_shut_0 rfl rfl ?_
  refine g_get C 0 0 i_N wX_0 rfl (by decide) k_N_12 rfl rfl d_N_shut_1 rfl ?_
  refine g_iload_n C d_N_shut_4 rfl rfl ?_
  refine g_runI (wX_fix a ki kz kl kq) rfl (rn_VN C (m_G_isArc hk0 hG.2.1) 1 1 wX_1 rfl rfl kc_G_isArc k_N_80 ki_G_isArc kx_G_isArc kn_G hy_G_isArc ⟨rfl, rfl⟩ ⟨by decide, by decide⟩ ⟨Nat.le_refl _, Nat.le_refl _⟩ rfl rfl (Nat.le_of_ble_eq_true rfl) d_N_shut_5) (fun r1 S1 hp1 => ?_)
  obtain ⟨hS1, hp1⟩ := hp1
  refine GG.at hS1 ?_
  refine g_if_ne (tgt := 14) C d_N_shut_8 (by decide) rfl (by omega) (fun h8 => ?_) (fun h8 => ?_)
  · have hn20 := hG.2.1
    have h01 := (hG.2.2.1.2.2.1 k).2.2.2.2.2.2.2.2
    refine g_aload_n C d_N_shut_14 rfl rfl ?_
    refine g_get C 0 0 i_N wX_0 rfl (by decide) k_N_12 rfl rfl d_N_shut_15 rfl ?_
    refine g_getN C 1 6 i_G wX_1 rfl (by decide) k_N_90 rfl rfl d_N_shut_18 rfl ?_
    refine g_iload_n C d_N_shut_21 rfl rfl ?_
    refine g_zald C 6 1 wX_6 rfl (by omega) (by omega) (by decide) d_N_shut_22 rfl ?_
    refine g_nm (fun ol e_ol => ?_)
    refine g_istore_n (lv' := [(3, .int (iI ol)), (0, .ref (a 0)), (1, .int (iI k)), (2, .int (iI v))]) C d_N_shut_23 (by decide) rfl rfl ?_
    refine g_aload_n C d_N_shut_24 rfl rfl ?_
    refine g_get C 0 0 i_N wX_0 rfl (by decide) k_N_12 rfl rfl d_N_shut_25 rfl ?_
    refine g_getN C 1 6 i_G wX_1 rfl (by decide) k_N_90 rfl rfl d_N_shut_28 rfl ?_
    refine g_iload_n C d_N_shut_31 rfl rfl ?_
    refine g_iload_n C d_N_shut_32 rfl rfl ?_
    refine g_zast C 6 1 wX_6 rfl (by omega) (by omega) (by decide) (by omega) wX_s6 d_N_shut_33 rfl ?_
    refine g_iload_n C d_N_shut_34 rfl rfl ?_
    refine g_if_eq (tgt := 42) C d_N_shut_35 (by decide) rfl (by omega) (fun h35 => ?_) (fun h35 => ?_)
    · refine g_iconst (z := 0) C d_N_shut_42 rfl rfl ?_
      refine g_iret C hr hk d_N_shut_43 ⟨_, rfl, ?_⟩
      exact Or.inr ⟨by omega, by omega, rfl⟩
    · refine g_iconst (z := 1) C d_N_shut_38 rfl rfl ?_
      refine g_goto (tgt := 43) C d_N_shut_39 (by decide) ?_
      refine g_iret C hr hk d_N_shut_43 ⟨_, rfl, ?_⟩
      exact Or.inr ⟨by omega, by omega, rfl⟩
  · refine g_bipush (z := (-2)) C d_N_shut_11 rfl (by decide) ?_
    refine g_iret C hr hk d_N_shut_13 ⟨_, rfl, ?_⟩
    exact Or.inl ⟨by omega, rfl, rfl⟩

set_option maxRecDepth 100000 in
set_option maxHeartbeats 4000000 in
theorem m_N_count {l : Launch} {D : va_G} {a : Nat → Nat} {ki kz kl kq : ClassId} {S : Nat → Int → Int} {u v : Int} (hG : GIs S) (hz : BZ S) (hu : r32 u) (hv : r32 v) : MX l D a ki kz kl kq y_N_count b_N_count 3 (some .int) rm_N_count [.ref (a 0), .int (iI u), .int (iI v)] S (pI fun r S' => (¬ twoS S u v ∧ r = -2 ∧ S' = S) ∨ (twoS S u v ∧ r = (spS S u v).length ∧ eqx [16, 17, 18, 19, 20] S S' ∧ BZ S')) := by
  refine MM.go b_N_count 3 (some .int) "NextPaths" [(0, .ref (a 0)), (1, .int (iI u)), (2, .int (iI v))] (by decide) rfl rfl (Nat.le_of_ble_eq_true rfl) ?_
  intro p e s m args below meth c C hr hk
  refine g_aload_n C d_N_count_0 rfl rfl ?_
  refine g_get C 0 0 i_N wX_0 rfl (by decide) k_N_12 rfl rfl d_N_count_1 rfl ?_
  refine g_iload_n C d_N_count_4 rfl rfl ?_
  refine g_iload_n C d_N_count_5 rfl rfl ?_
  refine g_runI (wX_fix a ki kz kl kq) rfl (rn_VN C (m_G_areTwoNodes hu hv hG.1) 1 2 wX_1 rfl rfl kc_G_areTwoNodes k_N_68 ki_G_areTwoNodes kx_G_areTwoNodes kn_G hy_G_areTwoNodes ⟨rfl, rfl⟩ ⟨by decide, by decide⟩ ⟨Nat.le_refl _, Nat.le_refl _⟩ rfl rfl (Nat.le_of_ble_eq_true rfl) d_N_count_6) (fun r1 S1 hp1 => ?_)
  obtain ⟨hS1, hp1⟩ := hp1
  refine GG.at hS1 ?_
  refine g_if_ne (tgt := 15) C d_N_count_9 (by decide) rfl (by omega) (fun h9 => ?_) (fun h9 => ?_)
  · refine g_aload_n C d_N_count_15 rfl rfl ?_
    refine g_get C 0 2 i_N wX_0 rfl (by decide) k_N_28 rfl rfl d_N_count_16 rfl ?_
    refine g_iload_n C d_N_count_19 rfl rfl ?_
    refine g_iload_n C d_N_count_20 rfl rfl ?_
    refine g_runV (wX_fix a ki kz kl kq) rfl (rn_VN C (m_P_findAll hG hz (by omega) (by omega)) 19 2 wX_19 rfl rfl kc_P_findAll k_N_98 ki_P_findAll kx_P_findAll kn_P hy_P_findAll ⟨rfl, rfl⟩ ⟨by decide, by decide⟩ ⟨Nat.le_refl _, Nat.le_refl _⟩ rfl rfl (Nat.le_of_ble_eq_true rfl) d_N_count_21) (fun S2 hp2 => ?_)
    refine g_aload_n C d_N_count_24 rfl rfl ?_
    refine g_get C 0 1 i_N wX_0 rfl (by decide) k_N_19 rfl rfl d_N_count_25 rfl ?_
    refine g_getN C 17 1 i_H wX_17 rfl (by decide) k_N_102 rfl rfl d_N_count_28 rfl ?_
    refine g_v (z' := ((spS S u v).length : Int)) hp2.2.2.1.1 ?_
    refine g_iret C hr hk d_N_count_31 ⟨_, rfl, ?_⟩
    exact Or.inr ⟨by omega, rfl, hp2.1, hp2.2.1⟩
  · refine g_bipush (z := (-2)) C d_N_count_12 rfl (by decide) ?_
    refine g_iret C hr hk d_N_count_14 ⟨_, rfl, ?_⟩
    exact Or.inl ⟨by omega, rfl, rfl⟩
end
section
/-! the class: paths asked for -/
/-- the heap holds the paths from k on -/
def FNh (S S' : Nat → Int → Int) (u b : Int) (k : Nat) : Prop := BZ S' ∧ HPs S' ((spS S u b).length - k) ∧ ∀ v, ct (S' 16) v ((spS S u b).length - k) = ((((spS S u b).drop k).map (cd (S 4))).count v : Nat)
theorem FNh_take {S S1 S2 : Nat → Int → Int} {u b : Int} {k : Nat} (hk : k < (spS S u b).length) (h : FNh S S1 u b k) (h2 : htak S1 S2 ((spS S u b).length - (k + 1))) : FNh S S2 u b (k + 1) ∧ S1 16 0 = cd (S 4) ((spS S u b).getD k []) := by
  obtain ⟨a2, a3, a4⟩ := h
  obtain ⟨b1, b2, b3, b4, b5⟩ := h2
  have hd : (spS S u b).drop k = (spS S u b).getD k [] :: (spS S u b).drop (k + 1) := by
    rw [List.drop_eq_getElem_cons hk]
    simp [hk]
  have hl : (spS S u b).length - k = ((spS S u b).length - (k + 1)) + 1 := by omega
  have hsort : ((cd (S 4) ((spS S u b).getD k [])) :: ((spS S u b).drop (k + 1)).map (cd (S 4))).Pairwise (fun x y => x ≤ y) := by
    have h9 : ((spS S u b).drop k).Pairwise (fun P Q => cd (S 4) P ≤ cd (S 4) Q) := List.Pairwise.sublist (List.drop_sublist _ _) sp_sorted
    rw [hd] at h9
    have h8 := List.pairwise_map.mpr h9
    exact h8
  have hc : ∀ v, ct (S1 16) v ((spS S u b).length - k) = ((cd (S 4) ((spS S u b).getD k []) :: ((spS S u b).drop (k + 1)).map (cd (S 4))).count v : Nat) := fun v => by
    rw [a4 v, hd]; rfl
  have h0 := hp_first a3.2.1 hsort hc (by omega)
  refine ⟨⟨fun v v0 v1 => ?_, ⟨b2, b3, b5⟩, fun v => ?_⟩, h0⟩
  · rw [b1 18 (by decide)]; exact a2 v v0 v1
  · have q1 := b4 v
    have q2 := hc v
    rw [hl] at q2
    rw [← q1, h0, List.count_cons] at q2
    simp only [beq_iff_eq] at q2
    by_cases c : cd (S 4) ((spS S u b).getD k []) = v
    · rw [if_pos c, if_pos c] at q2; omega
    · rw [if_neg c, if_neg c] at q2; omega
theorem FNh_pre {S S1 : Nat → Int → Int} {u b : Int} {k : Nat} (hk : k < (spS S u b).length) (h : FNh S S1 u b k) (hl : (spS S u b).length ≤ 1458) : S1 17 0 = ((spS S u b).length - (k + 1) : Nat) + 1 ∧ (spS S u b).length - (k + 1) < 1458 ∧ hp (S1 16) ((spS S u b).length - (k + 1) + 1) ∧ ∀ i : Int, 0 ≤ i → i < ((spS S u b).length - (k + 1) : Nat) + 1 → r62 (S1 16 i) := by
  obtain ⟨a2, a3, a4⟩ := h
  have e : (spS S u b).length - k = ((spS S u b).length - (k + 1)) + 1 := by omega
  rw [e] at a3
  exact ⟨by rw [a3.1]; omega, by omega, a3.2.1, fun i i0 i1 => a3.2.2 i i0 (by omega)⟩
/-- a path of the list -/
theorem spS_at {S : Nat → Int → Int} {u b : Int} (hG : GIs S) (hu : 0 ≤ u ∧ u < S 0 0) {k : Nat} (hk : k < (spS S u b).length) : ok5 ((spS S u b).getD k []) ∧ vq (S 1 0).toNat (S 2) (S 3) (S 6) b u [] ((spS S u b).getD k []) ∧ ∀ j, j ∈ (spS S u b).getD k [] → j < S 1 0 := by
  have hn := hG.1
  have hn1 := hG.2.1
  have hm : (spS S u b).getD k [] ∈ spS S u b := by simp [hk]
  have hv := (sp_mem hG.2.2.1 (a := u) (b := b) (by omega) _).mp hm
  exact ⟨vq_ok5 hG.2.2.1 (by omega) hv, hv, fun j hj => by have := vq_arcs _ u [] hv j hj; omega⟩

set_option maxRecDepth 100000 in
set_option maxHeartbeats 4000000 in
theorem lo_N_next {l : Launch} {D : va_G} {a : Nat → Nat} {ki kz kl kq : ClassId} {p : Program} {e : Env} {s : State} {m : MethodId} {args : Array Value} {below : List Frame} {meth : Method} {c : Code} {S0 : Nat → Int → Int} {u v k : Int} (hG : GIs S0) (h2 : twoS S0 u v) (hk3 : 0 ≤ k ∧ k ≤ 299) (hkl : k < (spS S0 u v).length) (hl58 : (spS S0 u v).length ≤ 1458) (C : CX p s m args c b_N_next 5 "NextPaths" TT D cls (tyz ki kz kl kq)) (hr : meth.sig.returnType = (some .int)) (hk : meth.locks = false) : ∀ (j i : Nat) (S : Nat → Int → Int), i ≤ k.toNat → k.toNat ≤ i + j → (eqx [16, 17, 18, 19, 20] S0 S ∧ FNh S0 S u v i) → GG p l e rm_N_next s m args below meth c D cls (adr (wX a ki kz kl kq S0)) 5 0 0 (MQ below (QcW D cls (wX a ki kz kl kq) S0 (pI fun r S' => (¬ (twoS S0 u v ∧ 0 ≤ k ∧ k ≤ 299) ∧ r = -2 ∧ S' = S0) ∨ ((twoS S0 u v ∧ 0 ≤ k ∧ k ≤ 299) ∧ BZ S' ∧ ((((spS S0 u v).length : Int) ≤ k ∧ r = -1 ∧ eqx [16, 17, 18, 19, 20] S0 S') ∨ (k < (spS S0 u v).length ∧ r = ((spS S0 u v).getD k.toNat []).length ∧ eqx [16, 17, 18, 19, 20, 30, 31, 32, 33] S0 S' ∧ TL S' ((spS S0 u v).getD k.toNat []) (wp (S0 4) ((spS S0 u v).getD k.toNat [])) (wp (S0 5) ((spS S0 u v).getD k.toNat []))))))) args s 0 0 (adr (wX a ki kz kl kq S0))) (wX a ki kz kl kq) S [(4, .int (iI (i : Int))), (0, .ref (a 0)), (1, .int (iI u)), (2, .int (iI v)), (3, .int (iI k))] 51 [] := by
  intro j
  induction j with
  | zero =>
    intro i S hi hk0 hI
    refine g_iload C d_N_next_51 rfl rfl ?_
    refine g_iload_n C d_N_next_53 rfl rfl ?_
    refine g_icmp_ge (tgt := 71) C d_N_next_54 (by decide) rfl (by omega) (by omega) (fun h54 => ?_) (fun h54 => ?_)
    · have hik : i = k.toNat := by omega
      have hlt : i < (spS S0 u v).length := by omega
      have pp := FNh_pre hlt hI.2 hl58
      refine g_aload_n C d_N_next_71 rfl rfl ?_
      refine g_get C 0 4 i_N wX_0 rfl (by decide) k_N_44 rfl rfl d_N_next_72 rfl ?_
      refine g_aload_n C d_N_next_75 rfl rfl ?_
      refine g_get C 0 0 i_N wX_0 rfl (by decide) k_N_12 rfl rfl d_N_next_76 rfl ?_
      refine g_aload_n C d_N_next_79 rfl rfl ?_
      refine g_get C 0 1 i_N wX_0 rfl (by decide) k_N_19 rfl rfl d_N_next_80 rfl ?_
      refine g_runL (wX_fix a ki kz kl kq) rfl (rn_VN C (m_H_takeFirst (n := (spS S0 u v).length - (i + 1)) pp.1 pp.2.1 pp.2.2.1 pp.2.2.2) 17 0 wX_17 rfl rfl kc_H_takeFirst k_N_105 ki_H_takeFirst kx_H_takeFirst kn_H hy_H_takeFirst ⟨rfl, rfl⟩ ⟨by decide, by decide⟩ ⟨Nat.le_refl _, Nat.le_refl _⟩ rfl rfl (Nat.le_of_ble_eq_true rfl) d_N_next_83) (fun r5 S5 hp5 => ?_)
      obtain ⟨er5, hp5⟩ := hp5
      have htk := FNh_take hlt hI.2 hp5
      have hat := spS_at hG (by omega) hlt
      have e0 : eqx [16, 17, 18, 19, 20] S0 S5 := eqx_tr hI.1 (eqx_mono hp5.1 (by simp))
      refine g_runI (wX_fix a ki kz kl kq) rfl (rn_VN C (m_T_tell (P := (spS S0 u v).getD i []) hat.1 (by rw [e0 4 (by decide)]; exact fun k => ⟨(hG.2.2.1.2.2.1 k).2.2.2.2.1, (hG.2.2.1.2.2.1 k).2.2.2.2.2.1⟩) (by rw [e0 4 (by decide), er5]; exact htk.2) (by rw [e0 1 (by decide)]; exact hG.2.1) (by rw [e0 1 (by decide)]; exact hat.2.2) (by rw [e0 5 (by decide)]; exact fun k => ⟨(hG.2.2.1.2.2.1 k).2.2.2.2.2.2.1, (hG.2.2.1.2.2.1 k).2.2.2.2.2.2.2.1⟩)) 22 2 wX_22 rfl rfl kc_T_tell k_N_109 ki_T_tell kx_T_tell kn_T hy_T_tell ⟨rfl, rfl⟩ ⟨by decide, by decide⟩ ⟨Nat.le_refl _, Nat.le_refl _⟩ rfl rfl (Nat.le_of_ble_eq_true rfl) d_N_next_86) (fun r6 S6 hp6 => ?_)
      refine g_iret C hr hk d_N_next_89 ⟨_, rfl, ?_⟩
      obtain ⟨q1, q2, q3⟩ := hp6
      subst hik
      rw [e0 4 (by decide), e0 5 (by decide)] at q3
      refine Or.inr ⟨by omega, fun x x0 x1 => by rw [q1 18 (by decide)]; exact htk.1.1 x x0 x1, Or.inr ⟨by omega, q2, fun j hj => ?_, q3⟩⟩
      simp only [List.mem_cons, List.not_mem_nil, or_false, not_or] at hj
      rw [q1 j (by simp [hj]), e0 j (by simp [hj])]
    · exact absurd h54 (by omega)
  | succ j ih =>
    intro i S hi hk0 hI
    refine g_iload C d_N_next_51 rfl rfl ?_
    refine g_iload_n C d_N_next_53 rfl rfl ?_
    refine g_icmp_ge (tgt := 71) C d_N_next_54 (by decide) rfl (by omega) (by omega) (fun h54 => ?_) (fun h54 => ?_)
    · have hik : i = k.toNat := by omega
      have hlt : i < (spS S0 u v).length := by omega
      have pp := FNh_pre hlt hI.2 hl58
      refine g_aload_n C d_N_next_71 rfl rfl ?_
      refine g_get C 0 4 i_N wX_0 rfl (by decide) k_N_44 rfl rfl d_N_next_72 rfl ?_
      refine g_aload_n C d_N_next_75 rfl rfl ?_
      refine g_get C 0 0 i_N wX_0 rfl (by decide) k_N_12 rfl rfl d_N_next_76 rfl ?_
      refine g_aload_n C d_N_next_79 rfl rfl ?_
      refine g_get C 0 1 i_N wX_0 rfl (by decide) k_N_19 rfl rfl d_N_next_80 rfl ?_
      refine g_runL (wX_fix a ki kz kl kq) rfl (rn_VN C (m_H_takeFirst (n := (spS S0 u v).length - (i + 1)) pp.1 pp.2.1 pp.2.2.1 pp.2.2.2) 17 0 wX_17 rfl rfl kc_H_takeFirst k_N_105 ki_H_takeFirst kx_H_takeFirst kn_H hy_H_takeFirst ⟨rfl, rfl⟩ ⟨by decide, by decide⟩ ⟨Nat.le_refl _, Nat.le_refl _⟩ rfl rfl (Nat.le_of_ble_eq_true rfl) d_N_next_83) (fun r5 S5 hp5 => ?_)
      obtain ⟨er5, hp5⟩ := hp5
      have htk := FNh_take hlt hI.2 hp5
      have hat := spS_at hG (by omega) hlt
      have e0 : eqx [16, 17, 18, 19, 20] S0 S5 := eqx_tr hI.1 (eqx_mono hp5.1 (by simp))
      refine g_runI (wX_fix a ki kz kl kq) rfl (rn_VN C (m_T_tell (P := (spS S0 u v).getD i []) hat.1 (by rw [e0 4 (by decide)]; exact fun k => ⟨(hG.2.2.1.2.2.1 k).2.2.2.2.1, (hG.2.2.1.2.2.1 k).2.2.2.2.2.1⟩) (by rw [e0 4 (by decide), er5]; exact htk.2) (by rw [e0 1 (by decide)]; exact hG.2.1) (by rw [e0 1 (by decide)]; exact hat.2.2) (by rw [e0 5 (by decide)]; exact fun k => ⟨(hG.2.2.1.2.2.1 k).2.2.2.2.2.2.1, (hG.2.2.1.2.2.1 k).2.2.2.2.2.2.2.1⟩)) 22 2 wX_22 rfl rfl kc_T_tell k_N_109 ki_T_tell kx_T_tell kn_T hy_T_tell ⟨rfl, rfl⟩ ⟨by decide, by decide⟩ ⟨Nat.le_refl _, Nat.le_refl _⟩ rfl rfl (Nat.le_of_ble_eq_true rfl) d_N_next_86) (fun r6 S6 hp6 => ?_)
      refine g_iret C hr hk d_N_next_89 ⟨_, rfl, ?_⟩
      obtain ⟨q1, q2, q3⟩ := hp6
      subst hik
      rw [e0 4 (by decide), e0 5 (by decide)] at q3
      refine Or.inr ⟨by omega, fun x x0 x1 => by rw [q1 18 (by decide)]; exact htk.1.1 x x0 x1, Or.inr ⟨by omega, q2, fun j hj => ?_, q3⟩⟩
      simp only [List.mem_cons, List.not_mem_nil, or_false, not_or] at hj
      rw [q1 j (by simp [hj]), e0 j (by simp [hj])]
    · have hlt : i < (spS S0 u v).length := by omega
      have pp := FNh_pre hlt hI.2 hl58
      refine g_aload_n C d_N_next_57 rfl rfl ?_
      refine g_get C 0 1 i_N wX_0 rfl (by decide) k_N_19 rfl rfl d_N_next_58 rfl ?_
      refine g_runL (wX_fix a ki kz kl kq) rfl (rn_VN C (m_H_takeFirst (n := (spS S0 u v).length - (i + 1)) pp.1 pp.2.1 pp.2.2.1 pp.2.2.2) 17 0 wX_17 rfl rfl kc_H_takeFirst k_N_105 ki_H_takeFirst kx_H_takeFirst kn_H hy_H_takeFirst ⟨rfl, rfl⟩ ⟨by decide, by decide⟩ ⟨Nat.le_refl _, Nat.le_refl _⟩ rfl rfl (Nat.le_of_ble_eq_true rfl) d_N_next_61) (fun r5 S5 hp5 => ?_)
      obtain ⟨er5, hp5⟩ := hp5
      have htk := FNh_take hlt hI.2 hp5
      refine g_pop2 C d_N_next_64 rfl rfl ?_
      obtain ⟨i2, e_i2⟩ : ∃ z : Int, z = (i : Int) + 1 := ⟨_, rfl⟩
      refine g_iinc (q := 0) (z := i2) (lv' := [(4, .int (iI i2)), (0, .ref (a 0)), (1, .int (iI u)), (2, .int (iI v)), (3, .int (iI k))]) C d_N_next_65 rfl e_i2.symm (by decide) rfl rfl ?_
      refine g_goto (tgt := 51) C d_N_next_68 (by decide) ?_
      refine GG.lvs (lv' := [(4, .int (iI ((i + 1 : Nat) : Int))), (0, .ref (a 0)), (1, .int (iI u)), (2, .int (iI v)), (3, .int (iI k))]) (by rw [show i2 = ((i + 1 : Nat) : Int) by omega]; simp [lk]) ?_
      exact ih (i + 1) _ (by omega) (by omega) ⟨eqx_tr hI.1 (eqx_mono hp5.1 (by simp)), htk.1⟩

set_option maxRecDepth 100000 in
set_option maxHeartbeats 4000000 in
theorem m_N_next {l : Launch} {D : va_G} {a : Nat → Nat} {ki kz kl kq : ClassId} {S : Nat → Int → Int} {u v k : Int} (hG : GIs S) (hz : BZ S) (hu : r32 u) (hv : r32 v) (hk3 : r32 k) : MX l D a ki kz kl kq y_N_next b_N_next 5 (some .int) rm_N_next [.ref (a 0), .int (iI u), .int (iI v), .int (iI k)] S (pI fun r S' => (¬ (twoS S u v ∧ 0 ≤ k ∧ k ≤ 299) ∧ r = -2 ∧ S' = S) ∨ ((twoS S u v ∧ 0 ≤ k ∧ k ≤ 299) ∧ BZ S' ∧ ((((spS S u v).length : Int) ≤ k ∧ r = -1 ∧ eqx [16, 17, 18, 19, 20] S S') ∨ (k < (spS S u v).length ∧ r = ((spS S u v).getD k.toNat []).length ∧ eqx [16, 17, 18, 19, 20, 30, 31, 32, 33] S S' ∧ TL S' ((spS S u v).getD k.toNat []) (wp (S 4) ((spS S u v).getD k.toNat [])) (wp (S 5) ((spS S u v).getD k.toNat [])))))) := by
  refine MM.go b_N_next 5 (some .int) "NextPaths" [(0, .ref (a 0)), (1, .int (iI u)), (2, .int (iI v)), (3, .int (iI k))] (by decide) rfl rfl (Nat.le_of_ble_eq_true rfl) ?_
  intro p e s m args below meth c C hr hk
  refine g_aload_n C d_N_next_0 rfl rfl ?_
  refine g_get C 0 0 i_N wX_0 rfl (by decide) k_N_12 rfl rfl d_N_next_1 rfl ?_
  refine g_iload_n C d_N_next_4 rfl rfl ?_
  refine g_iload_n C d_N_next_5 rfl rfl ?_
  refine g_runI (wX_fix a ki kz kl kq) rfl (rn_VN C (m_G_areTwoNodes hu hv hG.1) 1 2 wX_1 rfl rfl kc_G_areTwoNodes k_N_68 ki_G_areTwoNodes kx_G_areTwoNodes kn_G hy_G_areTwoNodes ⟨rfl, rfl⟩ ⟨by decide, by decide⟩ ⟨Nat.le_refl _, Nat.le_refl _⟩ rfl rfl (Nat.le_of_ble_eq_true rfl) d_N_next_6) (fun r1 S1 hp1 => ?_)
  obtain ⟨hS1, hp1⟩ := hp1
  refine GG.at hS1 ?_
  refine g_if_eq (tgt := 23) C d_N_next_9 (by decide) rfl (by omega) (fun h9 => ?_) (fun h9 => ?_)
  · refine g_bipush (z := (-2)) C d_N_next_23 rfl (by decide) ?_
    refine g_iret C hr hk d_N_next_25 ⟨_, rfl, ?_⟩
    exact Or.inl ⟨by omega, rfl, rfl⟩
  · refine g_iload_n C d_N_next_12 rfl rfl ?_
    refine g_iconst (z := 0) C d_N_next_13 rfl rfl ?_
    refine g_sipush (z := 299) C d_N_next_14 rfl (by decide) ?_
    refine g_runI (wX_fix a ki kz kl kq) rfl (rn_S C (m_N_liesIn hk3 (by decide) (by decide)) 3 kc_N_liesIn k_N_94 ks_N_liesIn kn_N hy_N_liesIn ⟨rfl, rfl⟩ ⟨by decide, by decide⟩ ⟨Nat.le_refl _, Nat.le_refl _⟩ rfl rfl (Nat.le_of_ble_eq_true rfl) d_N_next_17) (fun r2 S2 hp2 => ?_)
    obtain ⟨hS2, hp2⟩ := hp2
    refine GG.at hS2 ?_
    refine g_if_ne (tgt := 26) C d_N_next_20 (by decide) rfl (by omega) (fun h20 => ?_) (fun h20 => ?_)
    · refine g_aload_n C d_N_next_26 rfl rfl ?_
      refine g_get C 0 2 i_N wX_0 rfl (by decide) k_N_28 rfl rfl d_N_next_27 rfl ?_
      refine g_iload_n C d_N_next_30 rfl rfl ?_
      refine g_iload_n C d_N_next_31 rfl rfl ?_
      refine g_runV (wX_fix a ki kz kl kq) rfl (rn_VN C (m_P_findAll hG hz (by omega) (by omega)) 19 2 wX_19 rfl rfl kc_P_findAll k_N_98 ki_P_findAll kx_P_findAll kn_P hy_P_findAll ⟨rfl, rfl⟩ ⟨by decide, by decide⟩ ⟨Nat.le_refl _, Nat.le_refl _⟩ rfl rfl (Nat.le_of_ble_eq_true rfl) d_N_next_32) (fun S3 hp3 => ?_)
      have hl58 : (spS S u v).length ≤ 1458 := sp_len hG.2.2.1 (a := u) (b := v) (by have := hG.1; omega) (by have := hG.1; omega)
      refine g_iload_n C d_N_next_35 rfl rfl ?_
      refine g_aload_n C d_N_next_36 rfl rfl ?_
      refine g_get C 0 1 i_N wX_0 rfl (by decide) k_N_19 rfl rfl d_N_next_37 rfl ?_
      refine g_getN C 17 1 i_H wX_17 rfl (by decide) k_N_102 rfl rfl d_N_next_40 rfl ?_
      refine g_v (z' := ((spS S u v).length : Int)) hp3.2.2.1.1 ?_
      refine g_icmp_lt (tgt := 48) C d_N_next_43 (by decide) rfl (by omega) (by omega) (fun h43 => ?_) (fun h43 => ?_)
      · refine g_iconst (z := 0) C d_N_next_48 rfl rfl ?_
        refine g_nm (fun i0 e_i0 => ?_)
        refine g_istore (lv' := [(4, .int (iI i0)), (0, .ref (a 0)), (1, .int (iI u)), (2, .int (iI v)), (3, .int (iI k))]) C d_N_next_49 (by decide) rfl rfl ?_
        subst e_i0
        exact lo_N_next hG (by omega) (by omega) h43 hl58 C hr hk _ 0 _ (by omega) (Nat.le_add_left _ _) ⟨hp3.1, hp3.2.1, hp3.2.2.1, hp3.2.2.2⟩
      · refine g_iconst (z := (-1)) C d_N_next_46 rfl rfl ?_
        refine g_iret C hr hk d_N_next_47 ⟨_, rfl, ?_⟩
        exact Or.inr ⟨by omega, hp3.2.1, Or.inl ⟨h43, rfl, hp3.1⟩⟩
    · refine g_bipush (z := (-2)) C d_N_next_23 rfl (by decide) ?_
      refine g_iret C hr hk d_N_next_25 ⟨_, rfl, ?_⟩
      exact Or.inl ⟨by omega, rfl, rfl⟩

set_option maxRecDepth 100000 in
set_option maxHeartbeats 4000000 in
theorem lo_N_within {l : Launch} {D : va_G} {a : Nat → Nat} {ki kz kl kq : ClassId} {p : Program} {e : Env} {s : State} {m : MethodId} {args : Array Value} {below : List Frame} {meth : Method} {c : Code} {S0 : Nat → Int → Int} {u v k : Int} (hG : GIs S0) (h2 : twoS S0 u v) (hk3 : 0 ≤ k ∧ k ≤ 7000) (hl58 : (spS S0 u v).length ≤ 1458) (C : CX p s m args c b_N_within 7 "NextPaths" TT D cls (tyz ki kz kl kq)) (hr : meth.sig.returnType = (some .int)) (hk : meth.locks = false) : ∀ (j i : Nat) (S : Nat → Int → Int), i ≤ (spS S0 u v).length → (spS S0 u v).length ≤ i + j → (eqx [16, 17, 18, 19, 20] S0 S ∧ FNh S0 S u v i ∧ ∀ j : Nat, j < i → k < wp (S0 5) ((spS S0 u v).getD j [])) → GG p l e rm_N_within s m args below meth c D cls (adr (wX a ki kz kl kq S0)) 7 0 0 (MQ below (QcW D cls (wX a ki kz kl kq) S0 (pI fun r S' => (¬ (twoS S0 u v ∧ 0 ≤ k ∧ k ≤ 7000) ∧ r = -2 ∧ S' = S0) ∨ ((twoS S0 u v ∧ 0 ≤ k ∧ k ≤ 7000) ∧ BZ S' ∧ (((∀ j : Nat, j < (spS S0 u v).length → k < wp (S0 5) ((spS S0 u v).getD j [])) ∧ r = -1 ∧ eqx [16, 17, 18, 19, 20] S0 S') ∨ (∃ i : Nat, i < (spS S0 u v).length ∧ (∀ j : Nat, j < i → k < wp (S0 5) ((spS S0 u v).getD j [])) ∧ wp (S0 5) ((spS S0 u v).getD i []) ≤ k ∧ r = ((spS S0 u v).getD i []).length ∧ eqx [16, 17, 18, 19, 20, 30, 31, 32, 33] S0 S' ∧ TL S' ((spS S0 u v).getD i []) (wp (S0 4) ((spS S0 u v).getD i [])) (wp (S0 5) ((spS S0 u v).getD i []))))))) args s 0 0 (adr (wX a ki kz kl kq S0))) (wX a ki kz kl kq) S [(4, .int (iI (((spS S0 u v).length : Int) - (i : Int)))), (0, .ref (a 0)), (1, .int (iI u)), (2, .int (iI v)), (3, .int (iI k))] 44 [] := by
  intro j
  induction j with
  | zero =>
    intro i S hi hk0 hI
    refine g_iload C d_N_within_44 rfl rfl ?_
    refine g_if_le (tgt := 91) C d_N_within_46 (by decide) rfl (by omega) (fun h46 => ?_) (fun h46 => ?_)
    · refine g_iconst (z := (-1)) C d_N_within_91 rfl rfl ?_
      refine g_iret C hr hk d_N_within_92 ⟨_, rfl, ?_⟩
      exact Or.inr ⟨by omega, hI.2.1.1, Or.inl ⟨fun j hj => hI.2.2 j (by omega), rfl, hI.1⟩⟩
    · exact absurd h46 (by omega)
  | succ j ih =>
    intro i S hi hk0 hI
    refine g_iload C d_N_within_44 rfl rfl ?_
    refine g_if_le (tgt := 91) C d_N_within_46 (by decide) rfl (by omega) (fun h46 => ?_) (fun h46 => ?_)
    · refine g_iconst (z := (-1)) C d_N_within_91 rfl rfl ?_
      refine g_iret C hr hk d_N_within_92 ⟨_, rfl, ?_⟩
      exact Or.inr ⟨by omega, hI.2.1.1, Or.inl ⟨fun j hj => hI.2.2 j (by omega), rfl, hI.1⟩⟩
    · have hlt : i < (spS S0 u v).length := by omega
      have pp := FNh_pre hlt hI.2.1 hl58
      refine g_aload_n C d_N_within_49 rfl rfl ?_
      refine g_get C 0 1 i_N wX_0 rfl (by decide) k_N_19 rfl rfl d_N_within_50 rfl ?_
      refine g_runL (wX_fix a ki kz kl kq) rfl (rn_VN C (m_H_takeFirst (n := (spS S0 u v).length - (i + 1)) pp.1 pp.2.1 pp.2.2.1 pp.2.2.2) 17 0 wX_17 rfl rfl kc_H_takeFirst k_N_105 ki_H_takeFirst kx_H_takeFirst kn_H hy_H_takeFirst ⟨rfl, rfl⟩ ⟨by decide, by decide⟩ ⟨Nat.le_refl _, Nat.le_refl _⟩ rfl rfl (Nat.le_of_ble_eq_true rfl) d_N_within_53) (fun r5 S5 hp5 => ?_)
      obtain ⟨er5, hp5⟩ := hp5
      have htk := FNh_take hlt hI.2.1 hp5
      have hat := spS_at hG (by omega) hlt
      have e0 : eqx [16, 17, 18, 19, 20] S0 S5 := eqx_tr hI.1 (eqx_mono hp5.1 (by simp))
      have hx5 : r5 = cd (S5 4) ((spS S0 u v).getD i []) := by rw [e0 4 (by decide), er5]; exact htk.2
      refine g_nml (fun x5 e_x5 => ?_)
      refine g_lstore (lv' := [(5, .long (lI x5)), (4, .int (iI (((spS S0 u v).length : Int) - (i : Int)))), (0, .ref (a 0)), (1, .int (iI u)), (2, .int (iI v)), (3, .int (iI k))]) C d_N_within_56 (by decide) rfl rfl ?_
      refine g_aload_n C d_N_within_58 rfl rfl ?_
      refine g_get C 0 0 i_N wX_0 rfl (by decide) k_N_12 rfl rfl d_N_within_59 rfl ?_
      refine g_lload C d_N_within_62 rfl rfl ?_
      refine g_runI (wX_fix a ki kz kl kq) rfl (rn_VN C (m_G_secondOf (W := S5 4) (P := (spS S0 u v).getD i []) hat.1 (by rw [e0 4 (by decide)]; exact fun k => ⟨(hG.2.2.1.2.2.1 k).2.2.2.2.1, (hG.2.2.1.2.2.1 k).2.2.2.2.2.1⟩) (by rw [e_x5]; exact hx5) (by rw [e0 1 (by decide)]; exact hG.2.1) (by rw [e0 1 (by decide)]; exact hat.2.2) (by rw [e0 5 (by decide)]; exact fun k => ⟨(hG.2.2.1.2.2.1 k).2.2.2.2.2.2.1, (hG.2.2.1.2.2.1 k).2.2.2.2.2.2.2.1⟩)) 1 1 wX_1 rfl rfl kc_G_secondOf k_N_120 ki_G_secondOf kx_G_secondOf kn_G hy_G_secondOf ⟨rfl, rfl⟩ ⟨by decide, by decide⟩ ⟨Nat.le_refl _, Nat.le_refl _⟩ rfl rfl (Nat.le_of_ble_eq_true rfl) d_N_within_64) (fun r6 S6 hp6 => ?_)
      obtain ⟨hS6, rfl⟩ := hp6
      refine GG.at hS6 ?_
      refine g_v (z' := wp (S0 5) ((spS S0 u v).getD i [])) (by rw [e0 5 (by decide)]) ?_
      have hwb := wp_bd (W := S0 5) (fun k => ⟨(hG.2.2.1.2.2.1 k).2.2.2.2.2.2.1, (hG.2.2.1.2.2.1 k).2.2.2.2.2.2.2.1⟩) ((spS S0 u v).getD i [])
      have h77 := hat.1.1
      refine g_iload_n C d_N_within_67 rfl rfl ?_
      refine g_icmp_gt (tgt := 85) C d_N_within_68 (by decide) rfl (by omega) (by omega) (fun h68 => ?_) (fun h68 => ?_)
      · obtain ⟨l2, e_l2⟩ : ∃ z : Int, z = (((spS S0 u v).length : Int) - (i : Int)) + (-1) := ⟨_, rfl⟩
        refine g_iinc (q := 1) (z := l2) (lv' := [(4, .int (iI l2)), (5, .long (lI x5)), (0, .ref (a 0)), (1, .int (iI u)), (2, .int (iI v)), (3, .int (iI k))]) C d_N_within_85 rfl e_l2.symm (by decide) rfl rfl ?_
        refine g_goto (tgt := 44) C d_N_within_88 (by decide) ?_
        refine GG.lvs (lv' := [(4, .int (iI (((spS S0 u v).length : Int) - ((i + 1 : Nat) : Int)))), (0, .ref (a 0)), (1, .int (iI u)), (2, .int (iI v)), (3, .int (iI k))]) (by rw [show l2 = ((spS S0 u v).length : Int) - ((i + 1 : Nat) : Int) by omega]; simp [lk]) ?_
        refine ih (i + 1) _ (by omega) (by omega) ⟨e0, htk.1, fun j hj => ?_⟩
        by_cases ej : j = i
        · subst ej; exact h68
        · exact hI.2.2 j (by omega)
      · refine g_aload_n C d_N_within_71 rfl rfl ?_
        refine g_get C 0 4 i_N wX_0 rfl (by decide) k_N_44 rfl rfl d_N_within_72 rfl ?_
        refine g_aload_n C d_N_within_75 rfl rfl ?_
        refine g_get C 0 0 i_N wX_0 rfl (by decide) k_N_12 rfl rfl d_N_within_76 rfl ?_
        refine g_lload C d_N_within_79 rfl rfl ?_
        refine g_runI (wX_fix a ki kz kl kq) rfl (rn_VN C (m_T_tell (P := (spS S0 u v).getD i []) hat.1 (by rw [e0 4 (by decide)]; exact fun k => ⟨(hG.2.2.1.2.2.1 k).2.2.2.2.1, (hG.2.2.1.2.2.1 k).2.2.2.2.2.1⟩) (by rw [e_x5]; exact hx5) (by rw [e0 1 (by decide)]; exact hG.2.1) (by rw [e0 1 (by decide)]; exact hat.2.2) (by rw [e0 5 (by decide)]; exact fun k => ⟨(hG.2.2.1.2.2.1 k).2.2.2.2.2.2.1, (hG.2.2.1.2.2.1 k).2.2.2.2.2.2.2.1⟩)) 22 2 wX_22 rfl rfl kc_T_tell k_N_109 ki_T_tell kx_T_tell kn_T hy_T_tell ⟨rfl, rfl⟩ ⟨by decide, by decide⟩ ⟨Nat.le_refl _, Nat.le_refl _⟩ rfl rfl (Nat.le_of_ble_eq_true rfl) d_N_within_81) (fun r6 S6 hp6 => ?_)
        refine g_iret C hr hk d_N_within_84 ⟨_, rfl, ?_⟩
        obtain ⟨q1, q2, q3⟩ := hp6
        rw [e0 4 (by decide), e0 5 (by decide)] at q3
        refine Or.inr ⟨by omega, fun x x0 x1 => by rw [q1 18 (by decide)]; exact htk.1.1 x x0 x1, Or.inr ⟨i, hlt, hI.2.2, h68, q2, fun j hj => ?_, q3⟩⟩
        simp only [List.mem_cons, List.not_mem_nil, or_false, not_or] at hj
        rw [q1 j (by simp [hj]), e0 j (by simp [hj])]

set_option maxRecDepth 100000 in
set_option maxHeartbeats 4000000 in
theorem m_N_within {l : Launch} {D : va_G} {a : Nat → Nat} {ki kz kl kq : ClassId} {S : Nat → Int → Int} {u v k : Int} (hG : GIs S) (hz : BZ S) (hu : r32 u) (hv : r32 v) (hk3 : r32 k) : MX l D a ki kz kl kq y_N_within b_N_within 7 (some .int) rm_N_within [.ref (a 0), .int (iI u), .int (iI v), .int (iI k)] S (pI fun r S' => (¬ (twoS S u v ∧ 0 ≤ k ∧ k ≤ 7000) ∧ r = -2 ∧ S' = S) ∨ ((twoS S u v ∧ 0 ≤ k ∧ k ≤ 7000) ∧ BZ S' ∧ (((∀ j : Nat, j < (spS S u v).length → k < wp (S 5) ((spS S u v).getD j [])) ∧ r = -1 ∧ eqx [16, 17, 18, 19, 20] S S') ∨ (∃ i : Nat, i < (spS S u v).length ∧ (∀ j : Nat, j < i → k < wp (S 5) ((spS S u v).getD j [])) ∧ wp (S 5) ((spS S u v).getD i []) ≤ k ∧ r = ((spS S u v).getD i []).length ∧ eqx [16, 17, 18, 19, 20, 30, 31, 32, 33] S S' ∧ TL S' ((spS S u v).getD i []) (wp (S 4) ((spS S u v).getD i [])) (wp (S 5) ((spS S u v).getD i [])))))) := by
  refine MM.go b_N_within 7 (some .int) "NextPaths" [(0, .ref (a 0)), (1, .int (iI u)), (2, .int (iI v)), (3, .int (iI k))] (by decide) rfl rfl (Nat.le_of_ble_eq_true rfl) ?_
  intro p e s m args below meth c C hr hk
  refine g_aload_n C d_N_within_0 rfl rfl ?_
  refine g_get C 0 0 i_N wX_0 rfl (by decide) k_N_12 rfl rfl d_N_within_1 rfl ?_
  refine g_iload_n C d_N_within_4 rfl rfl ?_
  refine g_iload_n C d_N_within_5 rfl rfl ?_
  refine g_runI (wX_fix a ki kz kl kq) rfl (rn_VN C (m_G_areTwoNodes hu hv hG.1) 1 2 wX_1 rfl rfl kc_G_areTwoNodes k_N_68 ki_G_areTwoNodes kx_G_areTwoNodes kn_G hy_G_areTwoNodes ⟨rfl, rfl⟩ ⟨by decide, by decide⟩ ⟨Nat.le_refl _, Nat.le_refl _⟩ rfl rfl (Nat.le_of_ble_eq_true rfl) d_N_within_6) (fun r1 S1 hp1 => ?_)
  obtain ⟨hS1, hp1⟩ := hp1
  refine GG.at hS1 ?_
  refine g_if_eq (tgt := 23) C d_N_within_9 (by decide) rfl (by omega) (fun h9 => ?_) (fun h9 => ?_)
  · refine g_bipush (z := (-2)) C d_N_within_23 rfl (by decide) ?_
    refine g_iret C hr hk d_N_within_25 ⟨_, rfl, ?_⟩
    exact Or.inl ⟨by omega, rfl, rfl⟩
  · refine g_iload_n C d_N_within_12 rfl rfl ?_
    refine g_iconst (z := 0) C d_N_within_13 rfl rfl ?_
    refine g_sipush (z := 7000) C d_N_within_14 rfl (by decide) ?_
    refine g_runI (wX_fix a ki kz kl kq) rfl (rn_S C (m_N_liesIn hk3 (by decide) (by decide)) 3 kc_N_liesIn k_N_94 ks_N_liesIn kn_N hy_N_liesIn ⟨rfl, rfl⟩ ⟨by decide, by decide⟩ ⟨Nat.le_refl _, Nat.le_refl _⟩ rfl rfl (Nat.le_of_ble_eq_true rfl) d_N_within_17) (fun r2 S2 hp2 => ?_)
    obtain ⟨hS2, hp2⟩ := hp2
    refine GG.at hS2 ?_
    refine g_if_ne (tgt := 26) C d_N_within_20 (by decide) rfl (by omega) (fun h20 => ?_) (fun h20 => ?_)
    · refine g_aload_n C d_N_within_26 rfl rfl ?_
      refine g_get C 0 2 i_N wX_0 rfl (by decide) k_N_28 rfl rfl d_N_within_27 rfl ?_
      refine g_iload_n C d_N_within_30 rfl rfl ?_
      refine g_iload_n C d_N_within_31 rfl rfl ?_
      refine g_runV (wX_fix a ki kz kl kq) rfl (rn_VN C (m_P_findAll hG hz (by omega) (by omega)) 19 2 wX_19 rfl rfl kc_P_findAll k_N_98 ki_P_findAll kx_P_findAll kn_P hy_P_findAll ⟨rfl, rfl⟩ ⟨by decide, by decide⟩ ⟨Nat.le_refl _, Nat.le_refl _⟩ rfl rfl (Nat.le_of_ble_eq_true rfl) d_N_within_32) (fun S3 hp3 => ?_)
      have hl58 : (spS S u v).length ≤ 1458 := sp_len hG.2.2.1 (a := u) (b := v) (by have := hG.1; omega) (by have := hG.1; omega)
      refine g_aload_n C d_N_within_35 rfl rfl ?_
      refine g_get C 0 1 i_N wX_0 rfl (by decide) k_N_19 rfl rfl d_N_within_36 rfl ?_
      refine g_getN C 17 1 i_H wX_17 rfl (by decide) k_N_102 rfl rfl d_N_within_39 rfl ?_
      refine g_v (z' := ((spS S u v).length : Int)) hp3.2.2.1.1 ?_
      refine g_nm (fun l0 e_l0 => ?_)
      refine g_istore (lv' := [(4, .int (iI l0)), (0, .ref (a 0)), (1, .int (iI u)), (2, .int (iI v)), (3, .int (iI k))]) C d_N_within_42 (by decide) rfl rfl ?_
      refine GG.lvs (lv' := [(4, .int (iI (((spS S u v).length : Int) - ((0 : Nat) : Int)))), (0, .ref (a 0)), (1, .int (iI u)), (2, .int (iI v)), (3, .int (iI k))]) (by rw [show l0 = ((spS S u v).length : Int) - ((0 : Nat) : Int) by omega]; simp [lk]) ?_
      exact lo_N_within hG (by omega) (by omega) hl58 C hr hk _ 0 _ (by omega) (Nat.le_add_left _ _) ⟨hp3.1, ⟨hp3.2.1, hp3.2.2.1, hp3.2.2.2⟩, fun j hj => by omega⟩
    · refine g_bipush (z := (-2)) C d_N_within_23 rfl (by decide) ?_
      refine g_iret C hr hk d_N_within_25 ⟨_, rfl, ?_⟩
      exact Or.inl ⟨by omega, rfl, rfl⟩
end
section
/-! the class: pairs -/
/-- the pairs of B, the last one first, stand in the arrays -/
def PB (S : Nat → Int → Int) (B : List (Int × Int)) : Prop := S 36 0 = B.length ∧ ∀ i : Nat, i < B.length → S 34 (i : Int) = (B.reverse.getD i (0, 0)).1 ∧ S 35 (i : Int) = (B.reverse.getD i (0, 0)).2
theorem rev_last {q : Int × Int} {B : List (Int × Int)} : (q :: B).reverse.getD B.length (0, 0) = q := by
  rw [List.reverse_cons]
  simp
theorem rev_old {q : Int × Int} {B : List (Int × Int)} {i : Nat} (h : i < B.length) : (q :: B).reverse.getD i (0, 0) = B.reverse.getD i (0, 0) := by
  rw [List.reverse_cons]
  simp [List.getElem?_append_left (show i < B.reverse.length by simpa using h)]
theorem PB_nil {S : Nat → Int → Int} : PB (us S 36 0 0) [] := ⟨rfl, fun i hi => by simp at hi⟩
theorem PB_push {S : Nat → Int → Int} {B : List (Int × Int)} {x y : Int} (h : PB S B) : PB (us (us (us S 34 B.length x) 35 B.length y) 36 0 ((B.length : Int) + 1)) ((x, y) :: B) := by
  refine ⟨by rw [us_s, up_s]; simp, fun i hi => ?_⟩
  rw [us_n (by decide), us_n (by decide), us_s, us_n (by decide), us_s, us_n (by decide)]
  by_cases e : i = B.length
  · subst e; rw [up_s, up_s, rev_last]; exact ⟨rfl, rfl⟩
  · have hi2 : i < B.length := by simp at hi; omega
    rw [up_n (by omega), up_n (by omega), rev_old hi2]
    exact h.2 i hi2
theorem PB_pop {S : Nat → Int → Int} {q : Int × Int} {B : List (Int × Int)} (h : PB S (q :: B)) : PB (us S 36 0 (B.length : Int)) B := by
  refine ⟨by rw [us_s, up_s], fun i hi => ?_⟩
  rw [us_n (by decide), us_n (by decide), ← rev_old (q := q) hi]
  exact h.2 i (by simp; omega)
theorem PB_top {S : Nat → Int → Int} {q : Int × Int} {B : List (Int × Int)} (h : PB S (q :: B)) : S 36 0 = (B.length : Int) + 1 ∧ S 34 (B.length : Int) = q.1 ∧ S 35 (B.length : Int) = q.2 := by
  have h1 := h.2 B.length (by simp)
  rw [rev_last] at h1
  exact ⟨by rw [h.1]; simp, h1.1, h1.2⟩

set_option maxRecDepth 100000 in
set_option maxHeartbeats 4000000 in
theorem m_B_offer0 {l : Launch} {D : va_G} {a : Nat → Nat} {ki kz kl kq : ClassId} {S : Nat → Int → Int} {x y : Int} (hB : PB S []) (hx : r32 x) (hy : r32 y) : MX l D a ki kz kl kq y_B_offer b_B_offer 3 none rm_B_offer [.ref (a 24), .int (iI x), .int (iI y)] S (pV fun S' => eqx [34, 35, 36] S S' ∧ PB S' (of1 [] (x, y))) := by
  refine MM.go b_B_offer 3 none "NextPaths$BestPairs" [(0, .ref (a 24)), (1, .int (iI x)), (2, .int (iI y))] (by decide) rfl rfl (Nat.le_of_ble_eq_true rfl) ?_
  intro p e s m args below meth c C hr hk
  have h36 : S 36 0 = 0 := hB.1
  refine g_aload_n C d_B_offer_0 rfl rfl ?_
  refine g_get C 24 2 i_B wX_24 rfl (by decide) k_B_18 rfl rfl d_B_offer_1 rfl ?_
  refine g_v (z' := 0) h36 ?_
  refine g_if_le (tgt := 23) C d_B_offer_4 (by decide) rfl (by omega) (fun h4 => ?_) (fun h4 => ?_)
  · refine g_aload_n C d_B_offer_23 rfl rfl ?_
    refine g_get C 24 2 i_B wX_24 rfl (by decide) k_B_18 rfl rfl d_B_offer_24 rfl ?_
    refine g_v (z' := 0) h36 ?_
    refine g_if_le (tgt := 55) C d_B_offer_27 (by decide) rfl (by omega) (fun h27 => ?_) (fun h27 => ?_)
    · refine g_aload_n C d_B_offer_55 rfl rfl ?_
      refine g_get C 24 2 i_B wX_24 rfl (by decide) k_B_18 rfl rfl d_B_offer_56 rfl ?_
      refine g_v (z' := 0) h36 ?_
      refine g_sipush (z := 1458) C d_B_offer_59 rfl (by decide) ?_
      refine g_icmp_ge (tgt := 95) C d_B_offer_62 (by decide) rfl (by omega) (by omega) (fun h62 => ?_) (fun h62 => ?_)
      · exact absurd h62 (by omega)
      · refine g_aload_n C d_B_offer_65 rfl rfl ?_
        refine g_get C 24 0 i_B wX_24 rfl (by decide) k_B_9 rfl rfl d_B_offer_66 rfl ?_
        refine g_aload_n C d_B_offer_69 rfl rfl ?_
        refine g_get C 24 2 i_B wX_24 rfl (by decide) k_B_18 rfl rfl d_B_offer_70 rfl ?_
        refine g_v (z' := 0) h36 ?_
        refine g_iload_n C d_B_offer_73 rfl rfl ?_
        refine g_iast C 25 0 wX_25 rfl (by omega) (by omega) (by decide) wX_s25 d_B_offer_74 rfl ?_
        refine g_aload_n C d_B_offer_75 rfl rfl ?_
        refine g_get C 24 1 i_B wX_24 rfl (by decide) k_B_15 rfl rfl d_B_offer_76 rfl ?_
        refine g_aload_n C d_B_offer_79 rfl rfl ?_
        refine g_get C 24 2 i_B wX_24 rfl (by decide) k_B_18 rfl rfl d_B_offer_80 rfl ?_
        refine g_v (z' := 0) h36 ?_
        refine g_iload_n C d_B_offer_83 rfl rfl ?_
        refine g_iast C 26 0 wX_26 rfl (by omega) (by omega) (by decide) wX_s26 d_B_offer_84 rfl ?_
        refine g_aload_n C d_B_offer_85 rfl rfl ?_
        refine g_dup C d_B_offer_86 rfl rfl ?_
        refine g_get C 24 2 i_B wX_24 rfl (by decide) k_B_18 rfl rfl d_B_offer_87 rfl ?_
        refine g_v (z' := 0) h36 ?_
        refine g_iconst (z := 1) C d_B_offer_90 rfl rfl ?_
        refine g_iadd C d_B_offer_91 rfl rfl ?_
        refine g_put (ty := .int) C 24 2 ty_B i_B ty_B_ok n_B wX_24 rfl (by decide) k_B_18 rfl rfl (by decide +kernel) rfl rfl (Nat.le_of_ble_eq_true rfl) wX_p24_2 d_B_offer_92 rfl ?_
        refine g_vret C hr hk d_B_offer_95 ⟨rfl, ?_⟩
        exact ⟨eqx_us (eqx_us (eqx_us eqx_rf (by simp)) (by simp)) (by simp), PB_push (B := []) hB⟩
    · exact absurd h27 (by omega)
  · exact absurd h4 (by omega)

set_option maxRecDepth 100000 in
set_option maxHeartbeats 4000000 in
theorem of_end {l : Launch} {D : va_G} {a : Nat → Nat} {ki kz kl kq : ClassId} {p : Program} {e : Env} {s : State} {m : MethodId} {args : Array Value} {below : List Frame} {meth : Method} {c : Code} {S0 S : Nat → Int → Int} {x y : Int} {n : Nat} {f : (Nat → Int → Int) → Prop} (C : CX p s m args c b_B_offer 3 "NextPaths$BestPairs" TT D cls (tyz ki kz kl kq)) (hr : meth.sig.returnType = none) (hk : meth.locks = false) (hn8 : n < 1458) (hn : S 36 0 = n) (hx : r32 x) (hy : r32 y) (hf : ∀ S', S' = us (us (us S 34 n x) 35 n y) 36 0 ((n : Int) + 1) → f S') : GG p l e rm_B_offer s m args below meth c D cls (adr (wX a ki kz kl kq S0)) 3 0 0 (MQ below (QcW D cls (wX a ki kz kl kq) S0 (pV f)) args s 0 0 (adr (wX a ki kz kl kq S0))) (wX a ki kz kl kq) S [(0, .ref (a 24)), (1, .int (iI x)), (2, .int (iI y))] 55 [] := by
  refine g_aload_n C d_B_offer_55 rfl rfl ?_
  refine g_get C 24 2 i_B wX_24 rfl (by decide) k_B_18 rfl rfl d_B_offer_56 rfl ?_
  refine g_v (z' := (n : Int)) hn ?_
  refine g_sipush (z := 1458) C d_B_offer_59 rfl (by decide) ?_
  refine g_icmp_ge (tgt := 95) C d_B_offer_62 (by decide) rfl (by omega) (by omega) (fun h62 => ?_) (fun h62 => ?_)
  · exact absurd h62 (by omega)
  · refine g_aload_n C d_B_offer_65 rfl rfl ?_
    refine g_get C 24 0 i_B wX_24 rfl (by decide) k_B_9 rfl rfl d_B_offer_66 rfl ?_
    refine g_aload_n C d_B_offer_69 rfl rfl ?_
    refine g_get C 24 2 i_B wX_24 rfl (by decide) k_B_18 rfl rfl d_B_offer_70 rfl ?_
    refine g_v (z' := (n : Int)) hn ?_
    refine g_iload_n C d_B_offer_73 rfl rfl ?_
    refine g_iast C 25 0 wX_25 rfl (by omega) (by omega) (by decide) wX_s25 d_B_offer_74 rfl ?_
    refine g_aload_n C d_B_offer_75 rfl rfl ?_
    refine g_get C 24 1 i_B wX_24 rfl (by decide) k_B_15 rfl rfl d_B_offer_76 rfl ?_
    refine g_aload_n C d_B_offer_79 rfl rfl ?_
    refine g_get C 24 2 i_B wX_24 rfl (by decide) k_B_18 rfl rfl d_B_offer_80 rfl ?_
    refine g_v (z' := (n : Int)) hn ?_
    refine g_iload_n C d_B_offer_83 rfl rfl ?_
    refine g_iast C 26 0 wX_26 rfl (by omega) (by omega) (by decide) wX_s26 d_B_offer_84 rfl ?_
    refine g_aload_n C d_B_offer_85 rfl rfl ?_
    refine g_dup C d_B_offer_86 rfl rfl ?_
    refine g_get C 24 2 i_B wX_24 rfl (by decide) k_B_18 rfl rfl d_B_offer_87 rfl ?_
    refine g_v (z' := (n : Int)) hn ?_
    refine g_iconst (z := 1) C d_B_offer_90 rfl rfl ?_
    refine g_iadd C d_B_offer_91 rfl rfl ?_
    refine g_put (ty := .int) C 24 2 ty_B i_B ty_B_ok n_B wX_24 rfl (by decide) k_B_18 rfl rfl (by decide +kernel) rfl rfl (Nat.le_of_ble_eq_true rfl) wX_p24_2 d_B_offer_92 rfl ?_
    refine g_vret C hr hk d_B_offer_95 ⟨rfl, ?_⟩
    exact hf _ rfl

set_option maxRecDepth 100000 in
set_option maxHeartbeats 4000000 in
theorem m_B_offer1 {l : Launch} {D : va_G} {a : Nat → Nat} {ki kz kl kq : ClassId} {S : Nat → Int → Int} {x y : Int} {q : Int × Int} {B : List (Int × Int)} (hB : PB S (q :: B)) (hlen : B.length + 1 < 1458) (hx : r32 x) (hy : r32 y) (hq1 : r32 q.1) (hq2 : r32 q.2) : MX l D a ki kz kl kq y_B_offer b_B_offer 3 none rm_B_offer [.ref (a 24), .int (iI x), .int (iI y)] S (pV fun S' => eqx [34, 35, 36] S S' ∧ PB S' (of1 (q :: B) (x, y))) := by
  refine MM.go b_B_offer 3 none "NextPaths$BestPairs" [(0, .ref (a 24)), (1, .int (iI x)), (2, .int (iI y))] (by decide) rfl rfl (Nat.le_of_ble_eq_true rfl) ?_
  intro p e s m args below meth c C hr hk
  obtain ⟨h36, h34, h35⟩ := PB_top hB
  refine g_aload_n C d_B_offer_0 rfl rfl ?_
  refine g_get C 24 2 i_B wX_24 rfl (by decide) k_B_18 rfl rfl d_B_offer_1 rfl ?_
  refine g_v (z' := ((B.length : Int) + 1)) h36 ?_
  refine g_if_le (tgt := 23) C d_B_offer_4 (by decide) rfl (by omega) (fun h4 => ?_) (fun h4 => ?_)
  · exact absurd h4 (by omega)
  · refine g_aload_n C d_B_offer_7 rfl rfl ?_
    refine g_get C 24 1 i_B wX_24 rfl (by decide) k_B_15 rfl rfl d_B_offer_8 rfl ?_
    refine g_aload_n C d_B_offer_11 rfl rfl ?_
    refine g_get C 24 2 i_B wX_24 rfl (by decide) k_B_18 rfl rfl d_B_offer_12 rfl ?_
    refine g_v (z' := ((B.length : Int) + 1)) h36 ?_
    refine g_iconst (z := 1) C d_B_offer_15 rfl rfl ?_
    refine g_isub (z := (B.length : Int)) C d_B_offer_16 (by omega) rfl ?_
    refine g_iald C 26 0 wX_26 rfl (by omega) (by omega) (by decide) d_B_offer_17 rfl ?_
    refine g_v (z' := q.2) h35 ?_
    refine g_iload_n C d_B_offer_18 rfl rfl ?_
    refine g_icmp_gt (tgt := 23) C d_B_offer_19 (by decide) rfl (by omega) (by omega) (fun h19 => ?_) (fun h19 => ?_)
    · refine g_aload_n C d_B_offer_23 rfl rfl ?_
      refine g_get C 24 2 i_B wX_24 rfl (by decide) k_B_18 rfl rfl d_B_offer_24 rfl ?_
      refine g_v (z' := ((B.length : Int) + 1)) h36 ?_
      refine g_if_le (tgt := 55) C d_B_offer_27 (by decide) rfl (by omega) (fun h27 => ?_) (fun h27 => ?_)
      · exact absurd h27 (by omega)
      · refine g_aload_n C d_B_offer_30 rfl rfl ?_
        refine g_get C 24 0 i_B wX_24 rfl (by decide) k_B_9 rfl rfl d_B_offer_31 rfl ?_
        refine g_aload_n C d_B_offer_34 rfl rfl ?_
        refine g_get C 24 2 i_B wX_24 rfl (by decide) k_B_18 rfl rfl d_B_offer_35 rfl ?_
        refine g_v (z' := ((B.length : Int) + 1)) h36 ?_
        refine g_iconst (z := 1) C d_B_offer_38 rfl rfl ?_
        refine g_isub (z := (B.length : Int)) C d_B_offer_39 (by omega) rfl ?_
        refine g_iald C 25 0 wX_25 rfl (by omega) (by omega) (by decide) d_B_offer_40 rfl ?_
        refine g_v (z' := q.1) h34 ?_
        refine g_iload_n C d_B_offer_41 rfl rfl ?_
        refine g_icmp_ne (tgt := 55) C d_B_offer_42 (by decide) rfl (by omega) (by omega) (fun h42 => ?_) (fun h42 => ?_)
        · first
            | (have e1 : q.1 = x := h42
               have ef : of1 (q :: B) (x, y) = (x, y) :: B := by simp only [of1]; rw [if_neg (by omega), if_pos e1]
               rw [ef]
               exact of_end C hr hk (n := B.length) (by omega) (by rw [us_s, up_s]) hx hy (fun S' e => ⟨by rw [e]; exact eqx_us (eqx_us (eqx_us (eqx_us eqx_rf (by simp)) (by simp)) (by simp)) (by simp), by rw [e]; exact PB_push (PB_pop hB)⟩))
            | (have e1 : ¬ q.1 = x := h42
               have ef : of1 (q :: B) (x, y) = (x, y) :: q :: B := by simp only [of1]; rw [if_neg (by omega), if_neg e1]
               rw [ef]
               exact of_end C hr hk (n := B.length + 1) (by omega) (by rw [h36]; omega) hx hy (fun S' e => ⟨by rw [e]; exact eqx_us (eqx_us (eqx_us eqx_rf (by simp)) (by simp)) (by simp), by rw [e]; exact PB_push hB⟩))
        · refine g_aload_n C d_B_offer_45 rfl rfl ?_
          refine g_dup C d_B_offer_46 rfl rfl ?_
          refine g_get C 24 2 i_B wX_24 rfl (by decide) k_B_18 rfl rfl d_B_offer_47 rfl ?_
          refine g_v (z' := ((B.length : Int) + 1)) h36 ?_
          refine g_iconst (z := 1) C d_B_offer_50 rfl rfl ?_
          refine g_isub (z := (B.length : Int)) C d_B_offer_51 (by omega) rfl ?_
          refine g_put (ty := .int) C 24 2 ty_B i_B ty_B_ok n_B wX_24 rfl (by decide) k_B_18 rfl rfl (by decide +kernel) rfl rfl (Nat.le_of_ble_eq_true rfl) wX_p24_2 d_B_offer_52 rfl ?_
          first
            | (have e1 : q.1 = x := h42
               have ef : of1 (q :: B) (x, y) = (x, y) :: B := by simp only [of1]; rw [if_neg (by omega), if_pos e1]
               rw [ef]
               exact of_end C hr hk (n := B.length) (by omega) (by rw [us_s, up_s]) hx hy (fun S' e => ⟨by rw [e]; exact eqx_us (eqx_us (eqx_us (eqx_us eqx_rf (by simp)) (by simp)) (by simp)) (by simp), by rw [e]; exact PB_push (PB_pop hB)⟩))
            | (have e1 : ¬ q.1 = x := h42
               have ef : of1 (q :: B) (x, y) = (x, y) :: q :: B := by simp only [of1]; rw [if_neg (by omega), if_neg e1]
               rw [ef]
               exact of_end C hr hk (n := B.length + 1) (by omega) (by rw [h36]; omega) hx hy (fun S' e => ⟨by rw [e]; exact eqx_us (eqx_us (eqx_us eqx_rf (by simp)) (by simp)) (by simp), by rw [e]; exact PB_push hB⟩))
    · refine g_vret C hr hk d_B_offer_22 ⟨rfl, ?_⟩
      refine ⟨eqx_rf, ?_⟩
      have ef : of1 (q :: B) (x, y) = q :: B := by simp only [of1]; rw [if_pos (by omega)]
      rw [ef]; exact hB

theorem m_B_offer {l : Launch} {D : va_G} {a : Nat → Nat} {ki kz kl kq : ClassId} {S : Nat → Int → Int} {x y : Int} {B : List (Int × Int)} (hB : PB S B) (hlen : B.length < 1458) (hx : r32 x) (hy : r32 y) (hq : ∀ q, q ∈ B → r32 q.1 ∧ r32 q.2) : MX l D a ki kz kl kq y_B_offer b_B_offer 3 none rm_B_offer [.ref (a 24), .int (iI x), .int (iI y)] S (pV fun S' => eqx [34, 35, 36] S S' ∧ PB S' (of1 B (x, y))) := by
  cases B with
  | nil => exact m_B_offer0 hB hx hy
  | cons q B => exact m_B_offer1 hB (by simpa using hlen) hx hy (hq q List.mem_cons_self).1 (hq q List.mem_cons_self).2

/-- the pair of a path -/
abbrev prS (S : Nat → Int → Int) (P : List Int) : Int × Int := (wp (S 4) P, wp (S 5) P)
abbrev prsS (S : Nat → Int → Int) (u v : Int) : List (Int × Int) := (spS S u v).map (prS S)
theorem of1_len {B : List (Int × Int)} {p : Int × Int} : (of1 B p).length ≤ B.length + 1 := by
  cases B with
  | nil => simp [of1]
  | cons q B => simp only [of1]; split; simp; split <;> simp
theorem prsS_take {S : Nat → Int → Int} {u v : Int} {i : Nat} (h : i < (spS S u v).length) : (prsS S u v).take (i + 1) = (prsS S u v).take i ++ [prS S ((spS S u v).getD i [])] := by
  rw [List.take_add_one]
  simp [h]
theorem prsS_nn {S : Nat → Int → Int} (hG : GIs S) (P : List Int) : 0 ≤ (prS S P).1 ∧ 0 ≤ (prS S P).2 := ⟨(wp_bd (fun k => ⟨(hG.2.2.1.2.2.1 k).2.2.2.2.1, (hG.2.2.1.2.2.1 k).2.2.2.2.2.1⟩) P).1, (wp_bd (fun k => ⟨(hG.2.2.1.2.2.1 k).2.2.2.2.2.2.1, (hG.2.2.1.2.2.1 k).2.2.2.2.2.2.2.1⟩) P).1⟩
theorem prsS_fnt {S : Nat → Int → Int} {u v : Int} {i : Nat} {B : List (Int × Int)} (hG : GIs S) (hu : 0 ≤ u ∧ u < S 0 0) (h : i < (spS S u v).length) (hf : fnt ((prsS S u v).take i) B) : fnt ((prsS S u v).take (i + 1)) (of1 B (prS S ((spS S u v).getD i []))) := by
  rw [prsS_take h]
  have hn := hG.1
  refine fnt_step hf (fun q hq => ?_) (prsS_nn hG _) (fun q hq => ?_)
  · obtain ⟨P, -, rfl⟩ := List.mem_map.mp (List.mem_of_mem_take hq)
    exact prsS_nn hG P
  · obtain ⟨j, hj, e⟩ := List.mem_iff_getElem.mp hq
    have hj2 : j < i := by rw [List.length_take] at hj; omega
    have hw := sp_w (b := v) hG.2.2.1 (a := u) (by omega)
    have := List.pairwise_iff_getElem.mp hw j i (show j < (spS S u v).length by omega) h hj2
    rw [← e]
    simp [h]
    exact this

set_option maxRecDepth 100000 in
set_option maxHeartbeats 4000000 in
theorem lo_N_pairs {l : Launch} {D : va_G} {a : Nat → Nat} {ki kz kl kq : ClassId} {p : Program} {e : Env} {s : State} {m : MethodId} {args : Array Value} {below : List Frame} {meth : Method} {c : Code} {S0 : Nat → Int → Int} {u v : Int} (hG : GIs S0) (h2 : twoS S0 u v) (hl58 : (spS S0 u v).length ≤ 1458) (C : CX p s m args c b_N_pairs 6 "NextPaths" TT D cls (tyz ki kz kl kq)) (hr : meth.sig.returnType = (some .int)) (hk : meth.locks = false) : ∀ (j i : Nat) (S : Nat → Int → Int), i ≤ (spS S0 u v).length → (spS S0 u v).length ≤ i + j → (eqx [16, 17, 18, 19, 20, 34, 35, 36] S0 S ∧ FNh S0 S u v i ∧ ∃ B, fnt ((prsS S0 u v).take i) B ∧ PB S B ∧ B.length ≤ i ∧ ∀ q, q ∈ B → r32 q.1 ∧ r32 q.2) → GG p l e rm_N_pairs s m args below meth c D cls (adr (wX a ki kz kl kq S0)) 6 0 0 (MQ below (QcW D cls (wX a ki kz kl kq) S0 (pI fun r S' => (¬ twoS S0 u v ∧ r = -2 ∧ S' = S0) ∨ (twoS S0 u v ∧ BZ S' ∧ eqx [16, 17, 18, 19, 20, 34, 35, 36] S0 S' ∧ ∃ B, fnt (prsS S0 u v) B ∧ PB S' B ∧ B.length ≤ 1458 ∧ r = B.length))) args s 0 0 (adr (wX a ki kz kl kq S0))) (wX a ki kz kl kq) S [(3, .int (iI (((spS S0 u v).length : Int) - (i : Int)))), (0, .ref (a 0)), (1, .int (iI u)), (2, .int (iI v))] 39 [] := by
  intro j
  induction j with
  | zero =>
    intro i S hi hk0 hI
    refine g_iload_n C d_N_pairs_39 rfl rfl ?_
    refine g_if_le (tgt := 79) C d_N_pairs_40 (by decide) rfl (by omega) (fun h40 => ?_) (fun h40 => ?_)
    · obtain ⟨B, hB1, hB2, hB3, hB4⟩ := hI.2.2
      refine g_aload_n C d_N_pairs_79 rfl rfl ?_
      refine g_get C 0 5 i_N wX_0 rfl (by decide) k_N_51 rfl rfl d_N_pairs_80 rfl ?_
      refine g_getN C 24 2 i_B wX_24 rfl (by decide) k_N_132 rfl rfl d_N_pairs_83 rfl ?_
      refine g_v (z' := (B.length : Int)) hB2.1 ?_
      refine g_iret C hr hk d_N_pairs_86 ⟨_, rfl, ?_⟩
      have hil : i = (spS S0 u v).length := by omega
      subst hil
      rw [List.take_of_length_le (by simp)] at hB1
      exact Or.inr ⟨by omega, hI.2.1.1, hI.1, B, hB1, hB2, by omega, rfl⟩
    · exact absurd h40 (by omega)
  | succ j ih =>
    intro i S hi hk0 hI
    refine g_iload_n C d_N_pairs_39 rfl rfl ?_
    refine g_if_le (tgt := 79) C d_N_pairs_40 (by decide) rfl (by omega) (fun h40 => ?_) (fun h40 => ?_)
    · obtain ⟨B, hB1, hB2, hB3, hB4⟩ := hI.2.2
      refine g_aload_n C d_N_pairs_79 rfl rfl ?_
      refine g_get C 0 5 i_N wX_0 rfl (by decide) k_N_51 rfl rfl d_N_pairs_80 rfl ?_
      refine g_getN C 24 2 i_B wX_24 rfl (by decide) k_N_132 rfl rfl d_N_pairs_83 rfl ?_
      refine g_v (z' := (B.length : Int)) hB2.1 ?_
      refine g_iret C hr hk d_N_pairs_86 ⟨_, rfl, ?_⟩
      have hil : i = (spS S0 u v).length := by omega
      subst hil
      rw [List.take_of_length_le (by simp)] at hB1
      exact Or.inr ⟨by omega, hI.2.1.1, hI.1, B, hB1, hB2, by omega, rfl⟩
    · have hlt : i < (spS S0 u v).length := by omega
      have pp := FNh_pre hlt hI.2.1 hl58
      refine g_aload_n C d_N_pairs_43 rfl rfl ?_
      refine g_get C 0 1 i_N wX_0 rfl (by decide) k_N_19 rfl rfl d_N_pairs_44 rfl ?_
      refine g_runL (wX_fix a ki kz kl kq) rfl (rn_VN C (m_H_takeFirst (n := (spS S0 u v).length - (i + 1)) pp.1 pp.2.1 pp.2.2.1 pp.2.2.2) 17 0 wX_17 rfl rfl kc_H_takeFirst k_N_105 ki_H_takeFirst kx_H_takeFirst kn_H hy_H_takeFirst ⟨rfl, rfl⟩ ⟨by decide, by decide⟩ ⟨Nat.le_refl _, Nat.le_refl _⟩ rfl rfl (Nat.le_of_ble_eq_true rfl) d_N_pairs_47) (fun r5 S5 hp5 => ?_)
      obtain ⟨er5, hp5⟩ := hp5
      have htk := FNh_take hlt hI.2.1 hp5
      have hat := spS_at hG (by omega) hlt
      have e0 : eqx [16, 17, 18, 19, 20, 34, 35, 36] S0 S5 := eqx_tr hI.1 (eqx_mono hp5.1 (by simp))
      have hx5 : r5 = cd (S0 4) ((spS S0 u v).getD i []) := by rw [er5]; exact htk.2
      have hw4 := wp_bd (W := S0 4) (fun k => ⟨(hG.2.2.1.2.2.1 k).2.2.2.2.1, (hG.2.2.1.2.2.1 k).2.2.2.2.2.1⟩) ((spS S0 u v).getD i [])
      have hw5 := wp_bd (W := S0 5) (fun k => ⟨(hG.2.2.1.2.2.1 k).2.2.2.2.2.2.1, (hG.2.2.1.2.2.1 k).2.2.2.2.2.2.2.1⟩) ((spS S0 u v).getD i [])
      have h77 := hat.1.1
      have hcb := cd_bd (W := S0 4) (fun k => ⟨(hG.2.2.1.2.2.1 k).2.2.2.2.1, (hG.2.2.1.2.2.1 k).2.2.2.2.2.1⟩) hat.1
      obtain ⟨B, hB1, hB2, hB3, hB4⟩ := hI.2.2
      have hPB5 : PB S5 B := by unfold PB at *; rw [hp5.1 36 (by decide), hp5.1 34 (by decide), hp5.1 35 (by decide)]; exact hB2
      refine g_nml (fun x5 e_x5 => ?_)
      refine g_lstore (lv' := [(4, .long (lI x5)), (3, .int (iI (((spS S0 u v).length : Int) - (i : Int)))), (0, .ref (a 0)), (1, .int (iI u)), (2, .int (iI v))]) C d_N_pairs_50 (by decide) rfl rfl ?_
      refine g_aload_n C d_N_pairs_52 rfl rfl ?_
      refine g_get C 0 5 i_N wX_0 rfl (by decide) k_N_51 rfl rfl d_N_pairs_53 rfl ?_
      refine g_lload C d_N_pairs_56 rfl rfl ?_
      refine g_runI (wX_fix a ki kz kl kq) rfl (rn_SN C (m_C_weightIn (by omega)) 1 kc_C_weightIn k_N_124 ks_C_weightIn kn_C hy_C_weightIn ⟨rfl, rfl⟩ ⟨by decide, by decide⟩ ⟨Nat.le_refl _, Nat.le_refl _⟩ rfl rfl (Nat.le_of_ble_eq_true rfl) d_N_pairs_58) (fun r6 S6 hp6 => ?_)
      obtain ⟨hS6, rfl⟩ := hp6
      refine GG.at hS6 ?_
      refine g_v (z' := wp (S0 4) ((spS S0 u v).getD i [])) (by rw [e_x5, hx5]; exact cd_w hat.1) ?_
      refine g_aload_n C d_N_pairs_61 rfl rfl ?_
      refine g_get C 0 0 i_N wX_0 rfl (by decide) k_N_12 rfl rfl d_N_pairs_62 rfl ?_
      refine g_lload C d_N_pairs_65 rfl rfl ?_
      refine g_runI (wX_fix a ki kz kl kq) rfl (rn_VN C (m_G_secondOf (W := S0 4) (P := (spS S0 u v).getD i []) hat.1 (fun k => ⟨(hG.2.2.1.2.2.1 k).2.2.2.2.1, (hG.2.2.1.2.2.1 k).2.2.2.2.2.1⟩) (by rw [e_x5]; exact hx5) (by rw [e0 1 (by decide)]; exact hG.2.1) (by rw [e0 1 (by decide)]; exact hat.2.2) (by rw [e0 5 (by decide)]; exact fun k => ⟨(hG.2.2.1.2.2.1 k).2.2.2.2.2.2.1, (hG.2.2.1.2.2.1 k).2.2.2.2.2.2.2.1⟩)) 1 1 wX_1 rfl rfl kc_G_secondOf k_N_120 ki_G_secondOf kx_G_secondOf kn_G hy_G_secondOf ⟨rfl, rfl⟩ ⟨by decide, by decide⟩ ⟨Nat.le_refl _, Nat.le_refl _⟩ rfl rfl (Nat.le_of_ble_eq_true rfl) d_N_pairs_67) (fun r7 S7 hp7 => ?_)
      obtain ⟨hS7, rfl⟩ := hp7
      refine GG.at hS7 ?_
      refine g_v (z' := wp (S0 5) ((spS S0 u v).getD i [])) (by rw [e0 5 (by decide)]) ?_
      refine g_runV (wX_fix a ki kz kl kq) rfl (rn_VN C (m_B_offer hPB5 (by omega) (by omega) (by omega) hB4) 24 2 wX_24 rfl rfl kc_B_offer k_N_129 ki_B_offer kx_B_offer kn_B hy_B_offer ⟨rfl, rfl⟩ ⟨by decide, by decide⟩ ⟨Nat.le_refl _, Nat.le_refl _⟩ rfl rfl (Nat.le_of_ble_eq_true rfl) d_N_pairs_70) (fun S8 hp8 => ?_)
      obtain ⟨l2, e_l2⟩ : ∃ z : Int, z = (((spS S0 u v).length : Int) - (i : Int)) + (-1) := ⟨_, rfl⟩
      refine g_iinc (q := 1) (z := l2) (lv' := [(3, .int (iI l2)), (4, .long (lI x5)), (0, .ref (a 0)), (1, .int (iI u)), (2, .int (iI v))]) C d_N_pairs_73 rfl e_l2.symm (by decide) rfl rfl ?_
      refine g_goto (tgt := 39) C d_N_pairs_76 (by decide) ?_
      refine GG.lvs (lv' := [(3, .int (iI (((spS S0 u v).length : Int) - ((i + 1 : Nat) : Int)))), (0, .ref (a 0)), (1, .int (iI u)), (2, .int (iI v))]) (by rw [show l2 = ((spS S0 u v).length : Int) - ((i + 1 : Nat) : Int) by omega]; simp [lk]) ?_
      have hol := of1_len (B := B) (p := prS S0 ((spS S0 u v).getD i []))
      refine ih (i + 1) _ (by omega) (by omega) ⟨eqx_tr e0 (eqx_mono hp8.1 (by simp)), ?_, _, prsS_fnt hG (by omega) hlt hB1, hp8.2, by omega, fun q hq => ?_⟩
      · obtain ⟨t1, t2, t3⟩ := htk.1
        unfold FNh BZ HPs at *
        rw [hp8.1 16 (by decide), hp8.1 17 (by decide), hp8.1 18 (by decide)]
        exact ⟨t1, t2, t3⟩
      · have hb := (((prsS_fnt hG (by omega) hlt hB1).2 q).mp hq).1
        obtain ⟨P, hP, rfl⟩ := List.mem_map.mp (List.mem_of_mem_take hb)
        have hn8 := hG.1
        have hok := sp_ok5 hG.2.2.1 (a := u) (b := v) (by omega) hP
        have g4 := wp_bd (W := S0 4) (fun k => ⟨(hG.2.2.1.2.2.1 k).2.2.2.2.1, (hG.2.2.1.2.2.1 k).2.2.2.2.2.1⟩) P
        have g5 := wp_bd (W := S0 5) (fun k => ⟨(hG.2.2.1.2.2.1 k).2.2.2.2.2.2.1, (hG.2.2.1.2.2.1 k).2.2.2.2.2.2.2.1⟩) P
        have g7 := hok.1
        show r32 (wp (S0 4) P) ∧ r32 (wp (S0 5) P)
        omega

set_option maxRecDepth 100000 in
set_option maxHeartbeats 4000000 in
theorem m_N_pairs {l : Launch} {D : va_G} {a : Nat → Nat} {ki kz kl kq : ClassId} {S : Nat → Int → Int} {u v : Int} (hG : GIs S) (hz : BZ S) (hu : r32 u) (hv : r32 v) : MX l D a ki kz kl kq y_N_pairs b_N_pairs 6 (some .int) rm_N_pairs [.ref (a 0), .int (iI u), .int (iI v)] S (pI fun r S' => (¬ twoS S u v ∧ r = -2 ∧ S' = S) ∨ (twoS S u v ∧ BZ S' ∧ eqx [16, 17, 18, 19, 20, 34, 35, 36] S S' ∧ ∃ B, fnt (prsS S u v) B ∧ PB S' B ∧ B.length ≤ 1458 ∧ r = B.length)) := by
  refine MM.go b_N_pairs 6 (some .int) "NextPaths" [(0, .ref (a 0)), (1, .int (iI u)), (2, .int (iI v))] (by decide) rfl rfl (Nat.le_of_ble_eq_true rfl) ?_
  intro p e s m args below meth c C hr hk
  refine g_aload_n C d_N_pairs_0 rfl rfl ?_
  refine g_get C 0 0 i_N wX_0 rfl (by decide) k_N_12 rfl rfl d_N_pairs_1 rfl ?_
  refine g_iload_n C d_N_pairs_4 rfl rfl ?_
  refine g_iload_n C d_N_pairs_5 rfl rfl ?_
  refine g_runI (wX_fix a ki kz kl kq) rfl (rn_VN C (m_G_areTwoNodes hu hv hG.1) 1 2 wX_1 rfl rfl kc_G_areTwoNodes k_N_68 ki_G_areTwoNodes kx_G_areTwoNodes kn_G hy_G_areTwoNodes ⟨rfl, rfl⟩ ⟨by decide, by decide⟩ ⟨Nat.le_refl _, Nat.le_refl _⟩ rfl rfl (Nat.le_of_ble_eq_true rfl) d_N_pairs_6) (fun r1 S1 hp1 => ?_)
  obtain ⟨hS1, hp1⟩ := hp1
  refine GG.at hS1 ?_
  refine g_if_ne (tgt := 15) C d_N_pairs_9 (by decide) rfl (by omega) (fun h9 => ?_) (fun h9 => ?_)
  · refine g_aload_n C d_N_pairs_15 rfl rfl ?_
    refine g_get C 0 2 i_N wX_0 rfl (by decide) k_N_28 rfl rfl d_N_pairs_16 rfl ?_
    refine g_iload_n C d_N_pairs_19 rfl rfl ?_
    refine g_iload_n C d_N_pairs_20 rfl rfl ?_
    refine g_runV (wX_fix a ki kz kl kq) rfl (rn_VN C (m_P_findAll hG hz (by omega) (by omega)) 19 2 wX_19 rfl rfl kc_P_findAll k_N_98 ki_P_findAll kx_P_findAll kn_P hy_P_findAll ⟨rfl, rfl⟩ ⟨by decide, by decide⟩ ⟨Nat.le_refl _, Nat.le_refl _⟩ rfl rfl (Nat.le_of_ble_eq_true rfl) d_N_pairs_21) (fun S3 hp3 => ?_)
    have hl58 : (spS S u v).length ≤ 1458 := sp_len hG.2.2.1 (a := u) (b := v) (by have := hG.1; omega) (by have := hG.1; omega)
    refine g_aload_n C d_N_pairs_24 rfl rfl ?_
    refine g_get C 0 5 i_N wX_0 rfl (by decide) k_N_51 rfl rfl d_N_pairs_25 rfl ?_
    refine g_runV (wX_fix a ki kz kl kq) rfl (rn_VN C (m_B_empty) 24 0 wX_24 rfl rfl kc_B_empty k_N_63 ki_B_empty kx_B_empty kn_B hy_B_empty ⟨rfl, rfl⟩ ⟨by decide, by decide⟩ ⟨Nat.le_refl _, Nat.le_refl _⟩ rfl rfl (Nat.le_of_ble_eq_true rfl) d_N_pairs_28) (fun S4 hp4 => ?_)
    subst hp4
    refine g_aload_n C d_N_pairs_31 rfl rfl ?_
    refine g_get C 0 1 i_N wX_0 rfl (by decide) k_N_19 rfl rfl d_N_pairs_32 rfl ?_
    refine g_getN C 17 1 i_H wX_17 rfl (by decide) k_N_102 rfl rfl d_N_pairs_35 rfl ?_
    refine g_v (z' := ((spS S u v).length : Int)) (by rw [us_n (by decide)]; exact hp3.2.2.1.1) ?_
    refine g_nm (fun l0 e_l0 => ?_)
    refine g_istore_n (lv' := [(3, .int (iI l0)), (0, .ref (a 0)), (1, .int (iI u)), (2, .int (iI v))]) C d_N_pairs_38 (by decide) rfl rfl ?_
    refine GG.lvs (lv' := [(3, .int (iI (((spS S u v).length : Int) - ((0 : Nat) : Int)))), (0, .ref (a 0)), (1, .int (iI u)), (2, .int (iI v))]) (by rw [show l0 = ((spS S u v).length : Int) - ((0 : Nat) : Int) by omega]; simp [lk]) ?_
    refine lo_N_pairs hG (by omega) hl58 C hr hk _ 0 _ (by omega) (Nat.le_add_left _ _) ⟨eqx_us (eqx_mono hp3.1 (by simp)) (by simp), ?_, [], fnt_nil, PB_nil, by simp, fun q hq => by cases hq⟩
    obtain ⟨-, t1, t2, t3⟩ := hp3
    unfold FNh BZ HPs at *
    rw [us_n (by decide), us_n (by decide), us_n (by decide)]
    exact ⟨t1, t2, t3⟩
  · refine g_bipush (z := (-2)) C d_N_pairs_12 rfl (by decide) ?_
    refine g_iret C hr hk d_N_pairs_14 ⟨_, rfl, ?_⟩
    exact Or.inl ⟨by omega, rfl, rfl⟩
end
