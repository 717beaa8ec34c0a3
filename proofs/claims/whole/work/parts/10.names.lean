/-! names: fields, methods, words. By program, out of the printed tables -/
def F_N : u_T := fun k => match k with
  | 0 => ("NextPaths", "graph", "LNextPaths$Graph;", true)
  | 1 => ("NextPaths", "heap", "LNextPaths$PathHeap;", true)
  | 2 => ("NextPaths", "finder", "LNextPaths$PathFinder;", true)
  | 3 => ("NextPaths", "flow", "LNextPaths$Flow;", true)
  | 4 => ("NextPaths", "lastTold", "LNextPaths$ToldPath;", true)
  | _ => ("NextPaths", "lastPairs", "LNextPaths$BestPairs;", true)
def ty_N : Nat → FieldType := fun k => match k with
  | 0 => (.object "NextPaths$Graph")
  | 1 => (.object "NextPaths$PathHeap")
  | 2 => (.object "NextPaths$PathFinder")
  | 3 => (.object "NextPaths$Flow")
  | 4 => (.object "NextPaths$ToldPath")
  | _ => (.object "NextPaths$BestPairs")
theorem n_N : ∀ a, a < 6 → ∀ b, b < 6 → a ≠ b → (F_N a).2.1 ≠ (F_N b).2.1 := by decide +kernel
theorem ty_N_ok : ∀ k, k < 6 → parseFieldDescriptor (F_N k).2.2.1 = some (ty_N k) := by decide +kernel
def F_G : u_T := fun k => match k with
  | 0 => ("NextPaths$Graph", "nodes", "I", false)
  | 1 => ("NextPaths$Graph", "arcs", "I", false)
  | 2 => ("NextPaths$Graph", "from", "[I", true)
  | 3 => ("NextPaths$Graph", "to", "[I", true)
  | 4 => ("NextPaths$Graph", "weight", "[I", true)
  | 5 => ("NextPaths$Graph", "second", "[I", true)
  | 6 => ("NextPaths$Graph", "isShut", "[Z", true)
  | 7 => ("NextPaths$Graph", "leaving", "[[I", true)
  | _ => ("NextPaths$Graph", "leavingSize", "[I", true)
def ty_G : Nat → FieldType := fun k => match k with
  | 0 => .int
  | 1 => .int
  | 2 => (.array .int)
  | 3 => (.array .int)
  | 4 => (.array .int)
  | 5 => (.array .int)
  | 6 => (.array .boolean)
  | 7 => (.array (.array .int))
  | _ => (.array .int)
theorem n_G : ∀ a, a < 9 → ∀ b, b < 9 → a ≠ b → (F_G a).2.1 ≠ (F_G b).2.1 := by decide +kernel
theorem ty_G_ok : ∀ k, k < 9 → parseFieldDescriptor (F_G k).2.2.1 = some (ty_G k) := by decide +kernel
def F_H : u_T := fun k => match k with
  | 0 => ("NextPaths$PathHeap", "paths", "[J", true)
  | _ => ("NextPaths$PathHeap", "size", "I", false)
def ty_H : Nat → FieldType := fun k => match k with
  | 0 => (.array .long)
  | _ => .int
theorem n_H : ∀ a, a < 2 → ∀ b, b < 2 → a ≠ b → (F_H a).2.1 ≠ (F_H b).2.1 := by decide +kernel
theorem ty_H_ok : ∀ k, k < 2 → parseFieldDescriptor (F_H k).2.2.1 = some (ty_H k) := by decide +kernel
def F_P : u_T := fun k => match k with
  | 0 => ("NextPaths$PathFinder", "graph", "LNextPaths$Graph;", true)
  | 1 => ("NextPaths$PathFinder", "heap", "LNextPaths$PathHeap;", true)
  | 2 => ("NextPaths$PathFinder", "been", "[Z", true)
  | 3 => ("NextPaths$PathFinder", "chosen", "[I", true)
  | _ => ("NextPaths$PathFinder", "goal", "I", false)
def ty_P : Nat → FieldType := fun k => match k with
  | 0 => (.object "NextPaths$Graph")
  | 1 => (.object "NextPaths$PathHeap")
  | 2 => (.array .boolean)
  | 3 => (.array .int)
  | _ => .int
theorem n_P : ∀ a, a < 5 → ∀ b, b < 5 → a ≠ b → (F_P a).2.1 ≠ (F_P b).2.1 := by decide +kernel
theorem ty_P_ok : ∀ k, k < 5 → parseFieldDescriptor (F_P k).2.2.1 = some (ty_P k) := by decide +kernel
def F_T : u_T := fun k => match k with
  | 0 => ("NextPaths$ToldPath", "steps", "[I", true)
  | 1 => ("NextPaths$ToldPath", "length", "I", false)
  | 2 => ("NextPaths$ToldPath", "weight", "I", false)
  | _ => ("NextPaths$ToldPath", "second", "I", false)
def ty_T : Nat → FieldType := fun k => match k with
  | 0 => (.array .int)
  | 1 => .int
  | 2 => .int
  | _ => .int
theorem n_T : ∀ a, a < 4 → ∀ b, b < 4 → a ≠ b → (F_T a).2.1 ≠ (F_T b).2.1 := by decide +kernel
theorem ty_T_ok : ∀ k, k < 4 → parseFieldDescriptor (F_T k).2.2.1 = some (ty_T k) := by decide +kernel
def F_B : u_T := fun k => match k with
  | 0 => ("NextPaths$BestPairs", "weights", "[I", true)
  | 1 => ("NextPaths$BestPairs", "seconds", "[I", true)
  | _ => ("NextPaths$BestPairs", "size", "I", false)
def ty_B : Nat → FieldType := fun k => match k with
  | 0 => (.array .int)
  | 1 => (.array .int)
  | _ => .int
theorem n_B : ∀ a, a < 3 → ∀ b, b < 3 → a ≠ b → (F_B a).2.1 ≠ (F_B b).2.1 := by decide +kernel
theorem ty_B_ok : ∀ k, k < 3 → parseFieldDescriptor (F_B k).2.2.1 = some (ty_B k) := by decide +kernel
def F_F : u_T := fun k => match k with
  | 0 => ("NextPaths$Flow", "graph", "LNextPaths$Graph;", true)
  | 1 => ("NextPaths$Flow", "tail", "[I", true)
  | 2 => ("NextPaths$Flow", "head", "[I", true)
  | 3 => ("NextPaths$Flow", "cost", "[I", true)
  | 4 => ("NextPaths$Flow", "room", "[I", true)
  | 5 => ("NextPaths$Flow", "distance", "[I", true)
  | 6 => ("NextPaths$Flow", "lastEdge", "[I", true)
  | 7 => ("NextPaths$Flow", "edges", "I", false)
  | 8 => ("NextPaths$Flow", "source", "I", false)
  | _ => ("NextPaths$Flow", "goal", "I", false)
def ty_F : Nat → FieldType := fun k => match k with
  | 0 => (.object "NextPaths$Graph")
  | 1 => (.array .int)
  | 2 => (.array .int)
  | 3 => (.array .int)
  | 4 => (.array .int)
  | 5 => (.array .int)
  | 6 => (.array .int)
  | 7 => .int
  | 8 => .int
  | _ => .int
theorem n_F : ∀ a, a < 10 → ∀ b, b < 10 → a ≠ b → (F_F a).2.1 ≠ (F_F b).2.1 := by decide +kernel
theorem ty_F_ok : ∀ k, k < 10 → parseFieldDescriptor (F_F k).2.2.1 = some (ty_F k) := by decide +kernel
def F_M : u_T := fun k => match k with
  | 0 => ("NextPathsModel", "nodes", "I", false)
  | 1 => ("NextPathsModel", "arcs", "I", false)
  | 2 => ("NextPathsModel", "from", "[I", true)
  | 3 => ("NextPathsModel", "to", "[I", true)
  | 4 => ("NextPathsModel", "weight", "[I", true)
  | 5 => ("NextPathsModel", "second", "[I", true)
  | 6 => ("NextPathsModel", "isShut", "[Z", true)
  | 7 => ("NextPathsModel", "paths", "I", false)
  | 8 => ("NextPathsModel", "weights", "[I", true)
  | 9 => ("NextPathsModel", "seconds", "[I", true)
  | 10 => ("NextPathsModel", "rows", "[J", true)
  | 11 => ("NextPathsModel", "lengths", "[I", true)
  | 12 => ("NextPathsModel", "arcSets", "[I", true)
  | 13 => ("NextPathsModel", "nodeSets", "[I", true)
  | 14 => ("NextPathsModel", "isTold", "Z", false)
  | 15 => ("NextPathsModel", "toldWeight", "I", false)
  | 16 => ("NextPathsModel", "toldSecond", "I", false)
  | 17 => ("NextPathsModel", "toldLength", "I", false)
  | 18 => ("NextPathsModel", "toldRow", "J", false)
  | 19 => ("NextPathsModel", "found", "I", false)
  | 20 => ("NextPathsModel", "foundWeight", "[I", true)
  | 21 => ("NextPathsModel", "foundSecond", "[I", true)
  | 22 => ("NextPathsModel", "tried", "[I", true)
  | 23 => ("NextPathsModel", "stands", "[I", true)
  | 24 => ("NextPathsModel", "chosen", "[I", true)
  | 25 => ("NextPathsModel", "sums", "[I", true)
  | 26 => ("NextPathsModel", "usedArcs", "[I", true)
  | _ => ("NextPathsModel", "usedNodes", "[I", true)
def ty_M : Nat → FieldType := fun k => match k with
  | 0 => .int
  | 1 => .int
  | 2 => (.array .int)
  | 3 => (.array .int)
  | 4 => (.array .int)
  | 5 => (.array .int)
  | 6 => (.array .boolean)
  | 7 => .int
  | 8 => (.array .int)
  | 9 => (.array .int)
  | 10 => (.array .long)
  | 11 => (.array .int)
  | 12 => (.array .int)
  | 13 => (.array .int)
  | 14 => .boolean
  | 15 => .int
  | 16 => .int
  | 17 => .int
  | 18 => .long
  | 19 => .int
  | 20 => (.array .int)
  | 21 => (.array .int)
  | 22 => (.array .int)
  | 23 => (.array .int)
  | 24 => (.array .int)
  | 25 => (.array .int)
  | 26 => (.array .int)
  | _ => (.array .int)
theorem n_M : ∀ a, a < 28 → ∀ b, b < 28 → a ≠ b → (F_M a).2.1 ≠ (F_M b).2.1 := by decide +kernel
theorem ty_M_ok : ∀ k, k < 28 → parseFieldDescriptor (F_M k).2.2.1 = some (ty_M k) := by decide +kernel
abbrev cls : List vw_C := [("NextPaths", F_N, 6), ("NextPaths$Graph", F_G, 9), ("NextPaths$PathHeap", F_H, 2), ("NextPaths$PathFinder", F_P, 5), ("NextPaths$ToldPath", F_T, 4), ("NextPaths$BestPairs", F_B, 3), ("NextPaths$Flow", F_F, 10), ("NextPathsModel", F_M, 28)]
def TT : List Cond := lw_tbl.filter (fun w => goodWord w)
def isNest : Cond → Bool
  | .fieldLinkNest .. => true
  | .methodLinkNest .. => true
  | _ => false
def NN : List Cond := lw_tbl.filter isNest
theorem nn_mem {w : Cond} (h : w ∈ lw_tbl) (hg : isNest w = true) : w ∈ NN := List.mem_filter.mpr ⟨h, hg⟩
theorem nn_on {w : Cond} (h : w ∈ NN) : w.onTables = true := by
  have h2 := (List.mem_filter.mp h).2
  cases w <;> first | rfl | (exact absurd h2 (by decide)) | cases h2
/-- what the tables say of the private members of a nest -/
def NW (U : State) : Prop := ∀ w ∈ NN, va_Nw w U
theorem NW.warm {s U : State} (hW : s.WarmedH U.vm) (h : NW s) : NW U := fun w hw => by
  have h1 := h w hw
  have h2 := (List.mem_filter.mp hw).2
  cases w with
  | fieldLinkNest a i b n d h => exact va_Nw.warmF hW h1
  | methodLinkNest a i x h => exact va_Nw.warmM hW h1
  | _ => cases h2
theorem NW.same {u U : State} (h : u.vm = U.vm) (hN : NW u) : NW U := fun w hw => va_Nw.same (nn_on hw) h (hN w hw)
theorem NW.of {args : Array Value} {s : State} (h : ∀ w ∈ lw_tbl, w.before args s = true) : NW s := fun w hw => va_Nw.of (nn_on hw) (h w (List.mem_filter.mp hw).1)
theorem tm {w : Cond} (h : w ∈ lw_tbl) (hg : goodWord w = true) : w ∈ TT := List.mem_filter.mpr ⟨h, hg⟩
theorem tt_hts {args : Array Value} {s : State} (h : ∀ w ∈ lw_tbl, w.before args s = true) : ∀ w ∈ TT, w.before args s = true := fun w hw => h w (List.mem_filter.mp hw).1
theorem gd_in {c0 : Cond} {y : MethodName} {b : ByteArray} {m : Nat} {r : Option FieldType} (h : Cond.code y b m r ∈ TT) : GoodIn (c0 :: TT) (Cond.code y b m r :: TT) := fun w hw => by
  have hm : w ∈ TT := (List.mem_cons.mp hw).elim (fun e => e ▸ h) id
  exact ⟨List.mem_cons_of_mem _ hm, good_of_word (List.mem_filter.mp hm).2⟩
theorem gd_law {y : MethodName} {b : ByteArray} {m : Nat} {r : Option FieldType} (h : Cond.code y b m r ∈ TT) : GoodIn TT (Cond.code y b m r :: TT) := fun w hw => by
  have hm : w ∈ TT := (List.mem_cons.mp hw).elim (fun e => e ▸ h) id
  exact ⟨hm, good_of_word (List.mem_filter.mp hm).2⟩
theorem i_N : ∀ w ∈ u_ws "NextPaths" F_N 6, w ∈ TT := fun w h => tm ((show ∀ w ∈ u_ws "NextPaths" F_N 6, w ∈ lw_tbl by decide +kernel) w h) ((show ∀ w ∈ u_ws "NextPaths" F_N 6, goodWord w = true by decide +kernel) w h)
theorem i_G : ∀ w ∈ u_ws "NextPaths$Graph" F_G 9, w ∈ TT := fun w h => tm ((show ∀ w ∈ u_ws "NextPaths$Graph" F_G 9, w ∈ lw_tbl by decide +kernel) w h) ((show ∀ w ∈ u_ws "NextPaths$Graph" F_G 9, goodWord w = true by decide +kernel) w h)
theorem i_H : ∀ w ∈ u_ws "NextPaths$PathHeap" F_H 2, w ∈ TT := fun w h => tm ((show ∀ w ∈ u_ws "NextPaths$PathHeap" F_H 2, w ∈ lw_tbl by decide +kernel) w h) ((show ∀ w ∈ u_ws "NextPaths$PathHeap" F_H 2, goodWord w = true by decide +kernel) w h)
theorem i_P : ∀ w ∈ u_ws "NextPaths$PathFinder" F_P 5, w ∈ TT := fun w h => tm ((show ∀ w ∈ u_ws "NextPaths$PathFinder" F_P 5, w ∈ lw_tbl by decide +kernel) w h) ((show ∀ w ∈ u_ws "NextPaths$PathFinder" F_P 5, goodWord w = true by decide +kernel) w h)
theorem i_T : ∀ w ∈ u_ws "NextPaths$ToldPath" F_T 4, w ∈ TT := fun w h => tm ((show ∀ w ∈ u_ws "NextPaths$ToldPath" F_T 4, w ∈ lw_tbl by decide +kernel) w h) ((show ∀ w ∈ u_ws "NextPaths$ToldPath" F_T 4, goodWord w = true by decide +kernel) w h)
theorem i_B : ∀ w ∈ u_ws "NextPaths$BestPairs" F_B 3, w ∈ TT := fun w h => tm ((show ∀ w ∈ u_ws "NextPaths$BestPairs" F_B 3, w ∈ lw_tbl by decide +kernel) w h) ((show ∀ w ∈ u_ws "NextPaths$BestPairs" F_B 3, goodWord w = true by decide +kernel) w h)
theorem i_F : ∀ w ∈ u_ws "NextPaths$Flow" F_F 10, w ∈ TT := fun w h => tm ((show ∀ w ∈ u_ws "NextPaths$Flow" F_F 10, w ∈ lw_tbl by decide +kernel) w h) ((show ∀ w ∈ u_ws "NextPaths$Flow" F_F 10, goodWord w = true by decide +kernel) w h)
theorem i_M : ∀ w ∈ u_ws "NextPathsModel" F_M 28, w ∈ TT := fun w h => tm ((show ∀ w ∈ u_ws "NextPathsModel" F_M 28, w ∈ lw_tbl by decide +kernel) w h) ((show ∀ w ∈ u_ws "NextPathsModel" F_M 28, goodWord w = true by decide +kernel) w h)
abbrev b_N_init : ByteArray := prog_1_method_1_code
abbrev y_N_init : MethodName := ⟨"NextPaths", "<init>", "()V"⟩
def w_N_init : List Cond := .code y_N_init b_N_init 1 none :: TT
set_option maxRecDepth 100000 in
theorem kc_N_init : Cond.code y_N_init b_N_init 1 none ∈ TT := tm (List.mem_append_right _ (List.mem_of_getElem? (i := 15) (by rfl))) rfl
abbrev b_N_clear : ByteArray := prog_1_method_2_code
abbrev y_N_clear : MethodName := ⟨"NextPaths", "clear", "()I"⟩
def w_N_clear : List Cond := .code y_N_clear b_N_clear 2 (some .int) :: TT
set_option maxRecDepth 100000 in
theorem kc_N_clear : Cond.code y_N_clear b_N_clear 2 (some .int) ∈ TT := tm (List.mem_append_right _ (List.mem_of_getElem? (i := 213) (by rfl))) rfl
abbrev b_N_node : ByteArray := prog_1_method_3_code
abbrev y_N_node : MethodName := ⟨"NextPaths", "node", "()I"⟩
def w_N_node : List Cond := .code y_N_node b_N_node 1 (some .int) :: TT
set_option maxRecDepth 100000 in
theorem kc_N_node : Cond.code y_N_node b_N_node 1 (some .int) ∈ TT := tm (List.mem_append_right _ (List.mem_of_getElem? (i := 232) (by rfl))) rfl
abbrev b_N_arc : ByteArray := prog_1_method_4_code
abbrev y_N_arc : MethodName := ⟨"NextPaths", "arc", "(IIII)I"⟩
def w_N_arc : List Cond := .code y_N_arc b_N_arc 5 (some .int) :: TT
set_option maxRecDepth 100000 in
theorem kc_N_arc : Cond.code y_N_arc b_N_arc 5 (some .int) ∈ TT := tm (List.mem_append_right _ (List.mem_of_getElem? (i := 240) (by rfl))) rfl
abbrev b_N_change : ByteArray := prog_1_method_5_code
abbrev y_N_change : MethodName := ⟨"NextPaths", "change", "(III)I"⟩
def w_N_change : List Cond := .code y_N_change b_N_change 5 (some .int) :: TT
set_option maxRecDepth 100000 in
theorem kc_N_change : Cond.code y_N_change b_N_change 5 (some .int) ∈ TT := tm (List.mem_append_right _ (List.mem_of_getElem? (i := 263) (by rfl))) rfl
abbrev b_N_shut : ByteArray := prog_1_method_6_code
abbrev y_N_shut : MethodName := ⟨"NextPaths", "shut", "(IZ)I"⟩
def w_N_shut : List Cond := .code y_N_shut b_N_shut 4 (some .int) :: TT
set_option maxRecDepth 100000 in
theorem kc_N_shut : Cond.code y_N_shut b_N_shut 4 (some .int) ∈ TT := tm (List.mem_append_right _ (List.mem_of_getElem? (i := 271) (by rfl))) rfl
abbrev b_N_next : ByteArray := prog_1_method_7_code
abbrev y_N_next : MethodName := ⟨"NextPaths", "next", "(III)I"⟩
def w_N_next : List Cond := .code y_N_next b_N_next 5 (some .int) :: TT
set_option maxRecDepth 100000 in
theorem kc_N_next : Cond.code y_N_next b_N_next 5 (some .int) ∈ TT := tm (List.mem_append_right _ (List.mem_of_getElem? (i := 275) (by rfl))) rfl
abbrev b_N_count : ByteArray := prog_1_method_8_code
abbrev y_N_count : MethodName := ⟨"NextPaths", "count", "(II)I"⟩
def w_N_count : List Cond := .code y_N_count b_N_count 3 (some .int) :: TT
set_option maxRecDepth 100000 in
theorem kc_N_count : Cond.code y_N_count b_N_count 3 (some .int) ∈ TT := tm (List.mem_append_right _ (List.mem_of_getElem? (i := 336) (by rfl))) rfl
abbrev b_N_apart : ByteArray := prog_1_method_9_code
abbrev y_N_apart : MethodName := ⟨"NextPaths", "apart", "(IIII)I"⟩
def w_N_apart : List Cond := .code y_N_apart b_N_apart 8 (some .int) :: TT
set_option maxRecDepth 100000 in
theorem kc_N_apart : Cond.code y_N_apart b_N_apart 8 (some .int) ∈ TT := tm (List.mem_append_right _ (List.mem_of_getElem? (i := 340) (by rfl))) rfl
abbrev b_N_most : ByteArray := prog_1_method_10_code
abbrev y_N_most : MethodName := ⟨"NextPaths", "most", "(III)I"⟩
def w_N_most : List Cond := .code y_N_most b_N_most 5 (some .int) :: TT
set_option maxRecDepth 100000 in
theorem kc_N_most : Cond.code y_N_most b_N_most 5 (some .int) ∈ TT := tm (List.mem_append_right _ (List.mem_of_getElem? (i := 376) (by rfl))) rfl
abbrev b_N_within : ByteArray := prog_1_method_11_code
abbrev y_N_within : MethodName := ⟨"NextPaths", "within", "(III)I"⟩
def w_N_within : List Cond := .code y_N_within b_N_within 7 (some .int) :: TT
set_option maxRecDepth 100000 in
theorem kc_N_within : Cond.code y_N_within b_N_within 7 (some .int) ∈ TT := tm (List.mem_append_right _ (List.mem_of_getElem? (i := 380) (by rfl))) rfl
abbrev b_N_pairs : ByteArray := prog_1_method_12_code
abbrev y_N_pairs : MethodName := ⟨"NextPaths", "pairs", "(II)I"⟩
def w_N_pairs : List Cond := .code y_N_pairs b_N_pairs 6 (some .int) :: TT
set_option maxRecDepth 100000 in
theorem kc_N_pairs : Cond.code y_N_pairs b_N_pairs 6 (some .int) ∈ TT := tm (List.mem_append_right _ (List.mem_of_getElem? (i := 385) (by rfl))) rfl
abbrev b_N_pair : ByteArray := prog_1_method_13_code
abbrev y_N_pair : MethodName := ⟨"NextPaths", "pair", "(II)I"⟩
def w_N_pair : List Cond := .code y_N_pair b_N_pair 3 (some .int) :: TT
set_option maxRecDepth 100000 in
theorem kc_N_pair : Cond.code y_N_pair b_N_pair 3 (some .int) ∈ TT := tm (List.mem_append_right _ (List.mem_of_getElem? (i := 394) (by rfl))) rfl
abbrev b_N_step : ByteArray := prog_1_method_14_code
abbrev y_N_step : MethodName := ⟨"NextPaths", "step", "(I)I"⟩
def w_N_step : List Cond := .code y_N_step b_N_step 2 (some .int) :: TT
set_option maxRecDepth 100000 in
theorem kc_N_step : Cond.code y_N_step b_N_step 2 (some .int) ∈ TT := tm (List.mem_append_right _ (List.mem_of_getElem? (i := 398) (by rfl))) rfl
abbrev b_N_sum : ByteArray := prog_1_method_15_code
abbrev y_N_sum : MethodName := ⟨"NextPaths", "sum", "(I)I"⟩
def w_N_sum : List Cond := .code y_N_sum b_N_sum 2 (some .int) :: TT
set_option maxRecDepth 100000 in
theorem kc_N_sum : Cond.code y_N_sum b_N_sum 2 (some .int) ∈ TT := tm (List.mem_append_right _ (List.mem_of_getElem? (i := 402) (by rfl))) rfl
abbrev b_N_told : ByteArray := prog_1_method_16_code
abbrev y_N_told : MethodName := ⟨"NextPaths", "told", "(II)I"⟩
def w_N_told : List Cond := .code y_N_told b_N_told 3 (some .int) :: TT
set_option maxRecDepth 100000 in
theorem kc_N_told : Cond.code y_N_told b_N_told 3 (some .int) ∈ TT := tm (List.mem_append_right _ (List.mem_of_getElem? (i := 406) (by rfl))) rfl
abbrev b_N_of : ByteArray := prog_1_method_17_code
abbrev y_N_of : MethodName := ⟨"NextPaths", "of", "(I)I"⟩
def w_N_of : List Cond := .code y_N_of b_N_of 2 (some .int) :: TT
set_option maxRecDepth 100000 in
theorem kc_N_of : Cond.code y_N_of b_N_of 2 (some .int) ∈ TT := tm (List.mem_append_right _ (List.mem_of_getElem? (i := 410) (by rfl))) rfl
abbrev b_N_liesIn : ByteArray := prog_1_method_18_code
abbrev y_N_liesIn : MethodName := ⟨"NextPaths", "liesIn", "(III)Z"⟩
def w_N_liesIn : List Cond := .code y_N_liesIn b_N_liesIn 3 (some .boolean) :: TT
set_option maxRecDepth 100000 in
theorem kc_N_liesIn : Cond.code y_N_liesIn b_N_liesIn 3 (some .boolean) ∈ TT := tm (List.mem_append_right _ (List.mem_of_getElem? (i := 251) (by rfl))) rfl
abbrev b_N_isWeight : ByteArray := prog_1_method_19_code
abbrev y_N_isWeight : MethodName := ⟨"NextPaths", "isWeight", "(I)Z"⟩
def w_N_isWeight : List Cond := .code y_N_isWeight b_N_isWeight 1 (some .boolean) :: TT
set_option maxRecDepth 100000 in
theorem kc_N_isWeight : Cond.code y_N_isWeight b_N_isWeight 1 (some .boolean) ∈ TT := tm (List.mem_append_right _ (List.mem_of_getElem? (i := 254) (by rfl))) rfl
abbrev b_M_init : ByteArray := prog_10_method_1_code
abbrev y_M_init : MethodName := ⟨"NextPathsModel", "<init>", "()V"⟩
def w_M_init : List Cond := .code y_M_init b_M_init 1 none :: TT
set_option maxRecDepth 100000 in
theorem kc_M_init : Cond.code y_M_init b_M_init 1 none ∈ TT := tm (List.mem_append_right _ (List.mem_of_getElem? (i := 419) (by rfl))) rfl
abbrev b_M_clear : ByteArray := prog_10_method_2_code
abbrev y_M_clear : MethodName := ⟨"NextPathsModel", "clear", "()I"⟩
def w_M_clear : List Cond := .code y_M_clear b_M_clear 2 (some .int) :: TT
set_option maxRecDepth 100000 in
theorem kc_M_clear : Cond.code y_M_clear b_M_clear 2 (some .int) ∈ TT := tm (List.mem_append_right _ (List.mem_of_getElem? (i := 509) (by rfl))) rfl
abbrev b_M_isIn : ByteArray := prog_10_method_3_code
abbrev y_M_isIn : MethodName := ⟨"NextPathsModel", "isIn", "(III)Z"⟩
def w_M_isIn : List Cond := .code y_M_isIn b_M_isIn 3 (some .boolean) :: TT
set_option maxRecDepth 100000 in
theorem kc_M_isIn : Cond.code y_M_isIn b_M_isIn 3 (some .boolean) ∈ TT := tm (List.mem_append_right _ (List.mem_of_getElem? (i := 528) (by rfl))) rfl
abbrev b_M_isNode : ByteArray := prog_10_method_4_code
abbrev y_M_isNode : MethodName := ⟨"NextPathsModel", "isNode", "(I)Z"⟩
def w_M_isNode : List Cond := .code y_M_isNode b_M_isNode 2 (some .boolean) :: TT
set_option maxRecDepth 100000 in
theorem kc_M_isNode : Cond.code y_M_isNode b_M_isNode 2 (some .boolean) ∈ TT := tm (List.mem_append_right _ (List.mem_of_getElem? (i := 525) (by rfl))) rfl
abbrev b_M_isArc : ByteArray := prog_10_method_5_code
abbrev y_M_isArc : MethodName := ⟨"NextPathsModel", "isArc", "(I)Z"⟩
def w_M_isArc : List Cond := .code y_M_isArc b_M_isArc 2 (some .boolean) :: TT
set_option maxRecDepth 100000 in
theorem kc_M_isArc : Cond.code y_M_isArc b_M_isArc 2 (some .boolean) ∈ TT := tm (List.mem_append_right _ (List.mem_of_getElem? (i := 536) (by rfl))) rfl
abbrev b_M_areTwo : ByteArray := prog_10_method_6_code
abbrev y_M_areTwo : MethodName := ⟨"NextPathsModel", "areTwo", "(II)Z"⟩
def w_M_areTwo : List Cond := .code y_M_areTwo b_M_areTwo 3 (some .boolean) :: TT
set_option maxRecDepth 100000 in
theorem kc_M_areTwo : Cond.code y_M_areTwo b_M_areTwo 3 (some .boolean) ∈ TT := tm (List.mem_append_right _ (List.mem_of_getElem? (i := 521) (by rfl))) rfl
abbrev b_M_node : ByteArray := prog_10_method_7_code
abbrev y_M_node : MethodName := ⟨"NextPathsModel", "node", "()I"⟩
def w_M_node : List Cond := .code y_M_node b_M_node 1 (some .int) :: TT
set_option maxRecDepth 100000 in
theorem kc_M_node : Cond.code y_M_node b_M_node 1 (some .int) ∈ TT := tm (List.mem_append_right _ (List.mem_of_getElem? (i := 513) (by rfl))) rfl
abbrev b_M_arc : ByteArray := prog_10_method_8_code
abbrev y_M_arc : MethodName := ⟨"NextPathsModel", "arc", "(IIII)I"⟩
def w_M_arc : List Cond := .code y_M_arc b_M_arc 5 (some .int) :: TT
set_option maxRecDepth 100000 in
theorem kc_M_arc : Cond.code y_M_arc b_M_arc 5 (some .int) ∈ TT := tm (List.mem_append_right _ (List.mem_of_getElem? (i := 517) (by rfl))) rfl
abbrev b_M_change : ByteArray := prog_10_method_9_code
abbrev y_M_change : MethodName := ⟨"NextPathsModel", "change", "(III)I"⟩
def w_M_change : List Cond := .code y_M_change b_M_change 5 (some .int) :: TT
set_option maxRecDepth 100000 in
theorem kc_M_change : Cond.code y_M_change b_M_change 5 (some .int) ∈ TT := tm (List.mem_append_right _ (List.mem_of_getElem? (i := 532) (by rfl))) rfl
abbrev b_M_shut : ByteArray := prog_10_method_10_code
abbrev y_M_shut : MethodName := ⟨"NextPathsModel", "shut", "(IZ)I"⟩
def w_M_shut : List Cond := .code y_M_shut b_M_shut 4 (some .int) :: TT
set_option maxRecDepth 100000 in
theorem kc_M_shut : Cond.code y_M_shut b_M_shut 4 (some .int) ∈ TT := tm (List.mem_append_right _ (List.mem_of_getElem? (i := 540) (by rfl))) rfl
abbrev b_M_find : ByteArray := prog_10_method_11_code
abbrev y_M_find : MethodName := ⟨"NextPathsModel", "find", "(II)V"⟩
def w_M_find : List Cond := .code y_M_find b_M_find 6 none :: TT
set_option maxRecDepth 100000 in
theorem kc_M_find : Cond.code y_M_find b_M_find 6 none ∈ TT := tm (List.mem_append_right _ (List.mem_of_getElem? (i := 548) (by rfl))) rfl
abbrev b_M_keep : ByteArray := prog_10_method_12_code
abbrev y_M_keep : MethodName := ⟨"NextPathsModel", "keep", "(I)V"⟩
def w_M_keep : List Cond := .code y_M_keep b_M_keep 10 none :: TT
set_option maxRecDepth 100000 in
theorem kc_M_keep : Cond.code y_M_keep b_M_keep 10 none ∈ TT := tm (List.mem_append_right _ (List.mem_of_getElem? (i := 552) (by rfl))) rfl
abbrev b_M_isAhead : ByteArray := prog_10_method_13_code
abbrev y_M_isAhead : MethodName := ⟨"NextPathsModel", "isAhead", "(IIJI)Z"⟩
def w_M_isAhead : List Cond := .code y_M_isAhead b_M_isAhead 6 (some .boolean) :: TT
set_option maxRecDepth 100000 in
theorem kc_M_isAhead : Cond.code y_M_isAhead b_M_isAhead 6 (some .boolean) ∈ TT := tm (List.mem_append_right _ (List.mem_of_getElem? (i := 556) (by rfl))) rfl
abbrev b_M_tell : ByteArray := prog_10_method_14_code
abbrev y_M_tell : MethodName := ⟨"NextPathsModel", "tell", "(I)I"⟩
def w_M_tell : List Cond := .code y_M_tell b_M_tell 2 (some .int) :: TT
set_option maxRecDepth 100000 in
theorem kc_M_tell : Cond.code y_M_tell b_M_tell 2 (some .int) ∈ TT := tm (List.mem_append_right _ (List.mem_of_getElem? (i := 560) (by rfl))) rfl
abbrev b_M_next : ByteArray := prog_10_method_15_code
abbrev y_M_next : MethodName := ⟨"NextPathsModel", "next", "(III)I"⟩
def w_M_next : List Cond := .code y_M_next b_M_next 4 (some .int) :: TT
set_option maxRecDepth 100000 in
theorem kc_M_next : Cond.code y_M_next b_M_next 4 (some .int) ∈ TT := tm (List.mem_append_right _ (List.mem_of_getElem? (i := 544) (by rfl))) rfl
abbrev b_M_count : ByteArray := prog_10_method_16_code
abbrev y_M_count : MethodName := ⟨"NextPathsModel", "count", "(II)I"⟩
def w_M_count : List Cond := .code y_M_count b_M_count 3 (some .int) :: TT
set_option maxRecDepth 100000 in
theorem kc_M_count : Cond.code y_M_count b_M_count 3 (some .int) ∈ TT := tm (List.mem_append_right _ (List.mem_of_getElem? (i := 564) (by rfl))) rfl
abbrev b_M_apart : ByteArray := prog_10_method_17_code
abbrev y_M_apart : MethodName := ⟨"NextPathsModel", "apart", "(IIII)I"⟩
def w_M_apart : List Cond := .code y_M_apart b_M_apart 9 (some .int) :: TT
set_option maxRecDepth 100000 in
theorem kc_M_apart : Cond.code y_M_apart b_M_apart 9 (some .int) ∈ TT := tm (List.mem_append_right _ (List.mem_of_getElem? (i := 568) (by rfl))) rfl
abbrev b_M_out : ByteArray := prog_10_method_18_code
abbrev y_M_out : MethodName := ⟨"NextPathsModel", "out", "(I)I"⟩
def w_M_out : List Cond := .code y_M_out b_M_out 4 (some .int) :: TT
set_option maxRecDepth 100000 in
theorem kc_M_out : Cond.code y_M_out b_M_out 4 (some .int) ∈ TT := tm (List.mem_append_right _ (List.mem_of_getElem? (i := 576) (by rfl))) rfl
abbrev b_M_isJoined : ByteArray := prog_10_method_19_code
abbrev y_M_isJoined : MethodName := ⟨"NextPathsModel", "isJoined", "(III)Z"⟩
def w_M_isJoined : List Cond := .code y_M_isJoined b_M_isJoined 8 (some .boolean) :: TT
set_option maxRecDepth 100000 in
theorem kc_M_isJoined : Cond.code y_M_isJoined b_M_isJoined 8 (some .boolean) ∈ TT := tm (List.mem_append_right _ (List.mem_of_getElem? (i := 580) (by rfl))) rfl
abbrev b_M_many : ByteArray := prog_10_method_20_code
abbrev y_M_many : MethodName := ⟨"NextPathsModel", "many", "(I)I"⟩
def w_M_many : List Cond := .code y_M_many b_M_many 3 (some .int) :: TT
set_option maxRecDepth 100000 in
theorem kc_M_many : Cond.code y_M_many b_M_many 3 (some .int) ∈ TT := tm (List.mem_append_right _ (List.mem_of_getElem? (i := 583) (by rfl))) rfl
abbrev b_M_most : ByteArray := prog_10_method_21_code
abbrev y_M_most : MethodName := ⟨"NextPathsModel", "most", "(III)I"⟩
def w_M_most : List Cond := .code y_M_most b_M_most 7 (some .int) :: TT
set_option maxRecDepth 100000 in
theorem kc_M_most : Cond.code y_M_most b_M_most 7 (some .int) ∈ TT := tm (List.mem_append_right _ (List.mem_of_getElem? (i := 572) (by rfl))) rfl
abbrev b_M_within : ByteArray := prog_10_method_22_code
abbrev y_M_within : MethodName := ⟨"NextPathsModel", "within", "(III)I"⟩
def w_M_within : List Cond := .code y_M_within b_M_within 5 (some .int) :: TT
set_option maxRecDepth 100000 in
theorem kc_M_within : Cond.code y_M_within b_M_within 5 (some .int) ∈ TT := tm (List.mem_append_right _ (List.mem_of_getElem? (i := 588) (by rfl))) rfl
abbrev b_M_isBettered : ByteArray := prog_10_method_23_code
abbrev y_M_isBettered : MethodName := ⟨"NextPathsModel", "isBettered", "(I)Z"⟩
def w_M_isBettered : List Cond := .code y_M_isBettered b_M_isBettered 5 (some .boolean) :: TT
set_option maxRecDepth 100000 in
theorem kc_M_isBettered : Cond.code y_M_isBettered b_M_isBettered 5 (some .boolean) ∈ TT := tm (List.mem_append_right _ (List.mem_of_getElem? (i := 596) (by rfl))) rfl
abbrev b_M_pairs : ByteArray := prog_10_method_24_code
abbrev y_M_pairs : MethodName := ⟨"NextPathsModel", "pairs", "(II)I"⟩
def w_M_pairs : List Cond := .code y_M_pairs b_M_pairs 5 (some .int) :: TT
set_option maxRecDepth 100000 in
theorem kc_M_pairs : Cond.code y_M_pairs b_M_pairs 5 (some .int) ∈ TT := tm (List.mem_append_right _ (List.mem_of_getElem? (i := 592) (by rfl))) rfl
abbrev b_M_pair : ByteArray := prog_10_method_25_code
abbrev y_M_pair : MethodName := ⟨"NextPathsModel", "pair", "(II)I"⟩
def w_M_pair : List Cond := .code y_M_pair b_M_pair 3 (some .int) :: TT
set_option maxRecDepth 100000 in
theorem kc_M_pair : Cond.code y_M_pair b_M_pair 3 (some .int) ∈ TT := tm (List.mem_append_right _ (List.mem_of_getElem? (i := 600) (by rfl))) rfl
abbrev b_M_step : ByteArray := prog_10_method_26_code
abbrev y_M_step : MethodName := ⟨"NextPathsModel", "step", "(I)I"⟩
def w_M_step : List Cond := .code y_M_step b_M_step 2 (some .int) :: TT
set_option maxRecDepth 100000 in
theorem kc_M_step : Cond.code y_M_step b_M_step 2 (some .int) ∈ TT := tm (List.mem_append_right _ (List.mem_of_getElem? (i := 604) (by rfl))) rfl
abbrev b_M_sum : ByteArray := prog_10_method_27_code
abbrev y_M_sum : MethodName := ⟨"NextPathsModel", "sum", "(I)I"⟩
def w_M_sum : List Cond := .code y_M_sum b_M_sum 2 (some .int) :: TT
set_option maxRecDepth 100000 in
theorem kc_M_sum : Cond.code y_M_sum b_M_sum 2 (some .int) ∈ TT := tm (List.mem_append_right _ (List.mem_of_getElem? (i := 609) (by rfl))) rfl
abbrev b_M_told : ByteArray := prog_10_method_28_code
abbrev y_M_told : MethodName := ⟨"NextPathsModel", "told", "(II)I"⟩
def w_M_told : List Cond := .code y_M_told b_M_told 3 (some .int) :: TT
set_option maxRecDepth 100000 in
theorem kc_M_told : Cond.code y_M_told b_M_told 3 (some .int) ∈ TT := tm (List.mem_append_right _ (List.mem_of_getElem? (i := 613) (by rfl))) rfl
abbrev b_M_of : ByteArray := prog_10_method_29_code
abbrev y_M_of : MethodName := ⟨"NextPathsModel", "of", "(I)I"⟩
def w_M_of : List Cond := .code y_M_of b_M_of 4 (some .int) :: TT
set_option maxRecDepth 100000 in
theorem kc_M_of : Cond.code y_M_of b_M_of 4 (some .int) ∈ TT := tm (List.mem_append_right _ (List.mem_of_getElem? (i := 617) (by rfl))) rfl
abbrev b_B_init : ByteArray := prog_2_method_1_code
abbrev y_B_init : MethodName := ⟨"NextPaths$BestPairs", "<init>", "()V"⟩
def w_B_init : List Cond := .code y_B_init b_B_init 1 none :: TT
set_option maxRecDepth 100000 in
theorem kc_B_init : Cond.code y_B_init b_B_init 1 none ∈ TT := tm (List.mem_append_right _ (List.mem_of_getElem? (i := 176) (by rfl))) rfl
abbrev b_B_empty : ByteArray := prog_2_method_2_code
abbrev y_B_empty : MethodName := ⟨"NextPaths$BestPairs", "empty", "()V"⟩
def w_B_empty : List Cond := .code y_B_empty b_B_empty 1 none :: TT
set_option maxRecDepth 100000 in
theorem kc_B_empty : Cond.code y_B_empty b_B_empty 1 none ∈ TT := tm (List.mem_append_right _ (List.mem_of_getElem? (i := 228) (by rfl))) rfl
abbrev b_B_offer : ByteArray := prog_2_method_3_code
abbrev y_B_offer : MethodName := ⟨"NextPaths$BestPairs", "offer", "(II)V"⟩
def w_B_offer : List Cond := .code y_B_offer b_B_offer 3 none :: TT
set_option maxRecDepth 100000 in
theorem kc_B_offer : Cond.code y_B_offer b_B_offer 3 none ∈ TT := tm (List.mem_append_right _ (List.mem_of_getElem? (i := 390) (by rfl))) rfl
abbrev b_F_init : ByteArray := prog_3_method_1_code
abbrev y_F_init : MethodName := ⟨"NextPaths$Flow", "<init>", "(LNextPaths$Graph;)V"⟩
def w_F_init : List Cond := .code y_F_init b_F_init 2 none :: TT
set_option maxRecDepth 100000 in
theorem kc_F_init : Cond.code y_F_init b_F_init 2 none ∈ TT := tm (List.mem_append_right _ (List.mem_of_getElem? (i := 116) (by rfl))) rfl
abbrev b_F_entry : ByteArray := prog_3_method_2_code
abbrev y_F_entry : MethodName := ⟨"NextPaths$Flow", "entry", "(I)I"⟩
def w_F_entry : List Cond := .code y_F_entry b_F_entry 1 (some .int) :: TT
set_option maxRecDepth 100000 in
theorem kc_F_entry : Cond.code y_F_entry b_F_entry 1 (some .int) ∈ TT := tm (List.mem_append_right _ (List.mem_of_getElem? (i := 350) (by rfl))) rfl
abbrev b_F_exit : ByteArray := prog_3_method_3_code
abbrev y_F_exit : MethodName := ⟨"NextPaths$Flow", "exit", "(I)I"⟩
def w_F_exit : List Cond := .code y_F_exit b_F_exit 1 (some .int) :: TT
set_option maxRecDepth 100000 in
theorem kc_F_exit : Cond.code y_F_exit b_F_exit 1 (some .int) ∈ TT := tm (List.mem_append_right _ (List.mem_of_getElem? (i := 347) (by rfl))) rfl
abbrev b_F_prepare : ByteArray := prog_3_method_4_code
abbrev y_F_prepare : MethodName := ⟨"NextPaths$Flow", "prepare", "(IIZ)V"⟩
def w_F_prepare : List Cond := .code y_F_prepare b_F_prepare 5 none :: TT
set_option maxRecDepth 100000 in
theorem kc_F_prepare : Cond.code y_F_prepare b_F_prepare 5 none ∈ TT := tm (List.mem_append_right _ (List.mem_of_getElem? (i := 344) (by rfl))) rfl
abbrev b_F_addEdge : ByteArray := prog_3_method_5_code
abbrev y_F_addEdge : MethodName := ⟨"NextPaths$Flow", "addEdge", "(IIII)V"⟩
def w_F_addEdge : List Cond := .code y_F_addEdge b_F_addEdge 5 none :: TT
set_option maxRecDepth 100000 in
theorem kc_F_addEdge : Cond.code y_F_addEdge b_F_addEdge 5 none ∈ TT := tm (List.mem_append_right _ (List.mem_of_getElem? (i := 354) (by rfl))) rfl
abbrev b_F_setEdge : ByteArray := prog_3_method_6_code
abbrev y_F_setEdge : MethodName := ⟨"NextPaths$Flow", "setEdge", "(IIIII)V"⟩
def w_F_setEdge : List Cond := .code y_F_setEdge b_F_setEdge 6 none :: TT
set_option maxRecDepth 100000 in
theorem kc_F_setEdge : Cond.code y_F_setEdge b_F_setEdge 6 none ∈ TT := tm (List.mem_append_right _ (List.mem_of_getElem? (i := 358) (by rfl))) rfl
abbrev b_F_addPath : ByteArray := prog_3_method_7_code
abbrev y_F_addPath : MethodName := ⟨"NextPaths$Flow", "addPath", "()I"⟩
def w_F_addPath : List Cond := .code y_F_addPath b_F_addPath 4 (some .int) :: TT
set_option maxRecDepth 100000 in
theorem kc_F_addPath : Cond.code y_F_addPath b_F_addPath 4 (some .int) ∈ TT := tm (List.mem_append_right _ (List.mem_of_getElem? (i := 362) (by rfl))) rfl
abbrev b_F_measure : ByteArray := prog_3_method_8_code
abbrev y_F_measure : MethodName := ⟨"NextPaths$Flow", "measure", "()V"⟩
def w_F_measure : List Cond := .code y_F_measure b_F_measure 4 none :: TT
set_option maxRecDepth 100000 in
theorem kc_F_measure : Cond.code y_F_measure b_F_measure 4 none ∈ TT := tm (List.mem_append_right _ (List.mem_of_getElem? (i := 366) (by rfl))) rfl
abbrev b_F_tryEdge : ByteArray := prog_3_method_9_code
abbrev y_F_tryEdge : MethodName := ⟨"NextPaths$Flow", "tryEdge", "(I)Z"⟩
def w_F_tryEdge : List Cond := .code y_F_tryEdge b_F_tryEdge 4 (some .boolean) :: TT
set_option maxRecDepth 100000 in
theorem kc_F_tryEdge : Cond.code y_F_tryEdge b_F_tryEdge 4 (some .boolean) ∈ TT := tm (List.mem_append_right _ (List.mem_of_getElem? (i := 372) (by rfl))) rfl
abbrev b_G_init : ByteArray := prog_4_method_1_code
abbrev y_G_init : MethodName := ⟨"NextPaths$Graph", "<init>", "()V"⟩
def w_G_init : List Cond := .code y_G_init b_G_init 1 none :: TT
set_option maxRecDepth 100000 in
theorem kc_G_init : Cond.code y_G_init b_G_init 1 none ∈ TT := tm (List.mem_append_right _ (List.mem_of_getElem? (i := 23) (by rfl))) rfl
abbrev b_G_empty : ByteArray := prog_4_method_2_code
abbrev y_G_empty : MethodName := ⟨"NextPaths$Graph", "empty", "()V"⟩
def w_G_empty : List Cond := .code y_G_empty b_G_empty 1 none :: TT
set_option maxRecDepth 100000 in
theorem kc_G_empty : Cond.code y_G_empty b_G_empty 1 none ∈ TT := tm (List.mem_append_right _ (List.mem_of_getElem? (i := 217) (by rfl))) rfl
abbrev b_G_isNode : ByteArray := prog_4_method_3_code
abbrev y_G_isNode : MethodName := ⟨"NextPaths$Graph", "isNode", "(I)Z"⟩
def w_G_isNode : List Cond := .code y_G_isNode b_G_isNode 2 (some .boolean) :: TT
set_option maxRecDepth 100000 in
theorem kc_G_isNode : Cond.code y_G_isNode b_G_isNode 2 (some .boolean) ∈ TT := tm (List.mem_append_right _ (List.mem_of_getElem? (i := 248) (by rfl))) rfl
abbrev b_G_areTwoNodes : ByteArray := prog_4_method_4_code
abbrev y_G_areTwoNodes : MethodName := ⟨"NextPaths$Graph", "areTwoNodes", "(II)Z"⟩
def w_G_areTwoNodes : List Cond := .code y_G_areTwoNodes b_G_areTwoNodes 3 (some .boolean) :: TT
set_option maxRecDepth 100000 in
theorem kc_G_areTwoNodes : Cond.code y_G_areTwoNodes b_G_areTwoNodes 3 (some .boolean) ∈ TT := tm (List.mem_append_right _ (List.mem_of_getElem? (i := 244) (by rfl))) rfl
abbrev b_G_isArc : ByteArray := prog_4_method_5_code
abbrev y_G_isArc : MethodName := ⟨"NextPaths$Graph", "isArc", "(I)Z"⟩
def w_G_isArc : List Cond := .code y_G_isArc b_G_isArc 2 (some .boolean) :: TT
set_option maxRecDepth 100000 in
theorem kc_G_isArc : Cond.code y_G_isArc b_G_isArc 2 (some .boolean) ∈ TT := tm (List.mem_append_right _ (List.mem_of_getElem? (i := 267) (by rfl))) rfl
abbrev b_G_addNode : ByteArray := prog_4_method_6_code
abbrev y_G_addNode : MethodName := ⟨"NextPaths$Graph", "addNode", "()I"⟩
def w_G_addNode : List Cond := .code y_G_addNode b_G_addNode 1 (some .int) :: TT
set_option maxRecDepth 100000 in
theorem kc_G_addNode : Cond.code y_G_addNode b_G_addNode 1 (some .int) ∈ TT := tm (List.mem_append_right _ (List.mem_of_getElem? (i := 236) (by rfl))) rfl
abbrev b_G_addArc : ByteArray := prog_4_method_7_code
abbrev y_G_addArc : MethodName := ⟨"NextPaths$Graph", "addArc", "(IIII)I"⟩
def w_G_addArc : List Cond := .code y_G_addArc b_G_addArc 6 (some .int) :: TT
set_option maxRecDepth 100000 in
theorem kc_G_addArc : Cond.code y_G_addArc b_G_addArc 6 (some .int) ∈ TT := tm (List.mem_append_right _ (List.mem_of_getElem? (i := 259) (by rfl))) rfl
abbrev b_G_shutArcs : ByteArray := prog_4_method_8_code
abbrev y_G_shutArcs : MethodName := ⟨"NextPaths$Graph", "shutArcs", "()I"⟩
def w_G_shutArcs : List Cond := .code y_G_shutArcs b_G_shutArcs 3 (some .int) :: TT
set_option maxRecDepth 100000 in
theorem kc_G_shutArcs : Cond.code y_G_shutArcs b_G_shutArcs 3 (some .int) ∈ TT := tm (List.mem_append_right _ (List.mem_of_getElem? (i := 414) (by rfl))) rfl
abbrev b_G_secondOf : ByteArray := prog_4_method_9_code
abbrev y_G_secondOf : MethodName := ⟨"NextPaths$Graph", "secondOf", "(J)I"⟩
def w_G_secondOf : List Cond := .code y_G_secondOf b_G_secondOf 6 (some .int) :: TT
set_option maxRecDepth 100000 in
theorem kc_G_secondOf : Cond.code y_G_secondOf b_G_secondOf 6 (some .int) ∈ TT := tm (List.mem_append_right _ (List.mem_of_getElem? (i := 326) (by rfl))) rfl
abbrev b_C_head : ByteArray := prog_5_method_2_code
abbrev y_C_head : MethodName := ⟨"NextPaths$PathCode", "head", "(II)J"⟩
def w_C_head : List Cond := .code y_C_head b_C_head 2 (some .long) :: TT
set_option maxRecDepth 100000 in
theorem kc_C_head : Cond.code y_C_head b_C_head 2 (some .long) ∈ TT := tm (List.mem_append_right _ (List.mem_of_getElem? (i := 299) (by rfl))) rfl
abbrev b_C_arcAt : ByteArray := prog_5_method_3_code
abbrev y_C_arcAt : MethodName := ⟨"NextPaths$PathCode", "arcAt", "(II)J"⟩
def w_C_arcAt : List Cond := .code y_C_arcAt b_C_arcAt 2 (some .long) :: TT
set_option maxRecDepth 100000 in
theorem kc_C_arcAt : Cond.code y_C_arcAt b_C_arcAt 2 (some .long) ∈ TT := tm (List.mem_append_right _ (List.mem_of_getElem? (i := 293) (by rfl))) rfl
abbrev b_C_weightIn : ByteArray := prog_5_method_4_code
abbrev y_C_weightIn : MethodName := ⟨"NextPaths$PathCode", "weightIn", "(J)I"⟩
def w_C_weightIn : List Cond := .code y_C_weightIn b_C_weightIn 2 (some .int) :: TT
set_option maxRecDepth 100000 in
theorem kc_C_weightIn : Cond.code y_C_weightIn b_C_weightIn 2 (some .int) ∈ TT := tm (List.mem_append_right _ (List.mem_of_getElem? (i := 322) (by rfl))) rfl
abbrev b_C_lengthIn : ByteArray := prog_5_method_5_code
abbrev y_C_lengthIn : MethodName := ⟨"NextPaths$PathCode", "lengthIn", "(J)I"⟩
def w_C_lengthIn : List Cond := .code y_C_lengthIn b_C_lengthIn 2 (some .int) :: TT
set_option maxRecDepth 100000 in
theorem kc_C_lengthIn : Cond.code y_C_lengthIn b_C_lengthIn 2 (some .int) ∈ TT := tm (List.mem_append_right _ (List.mem_of_getElem? (i := 319) (by rfl))) rfl
abbrev b_C_arcIn : ByteArray := prog_5_method_6_code
abbrev y_C_arcIn : MethodName := ⟨"NextPaths$PathCode", "arcIn", "(JI)I"⟩
def w_C_arcIn : List Cond := .code y_C_arcIn b_C_arcIn 3 (some .int) :: TT
set_option maxRecDepth 100000 in
theorem kc_C_arcIn : Cond.code y_C_arcIn b_C_arcIn 3 (some .int) ∈ TT := tm (List.mem_append_right _ (List.mem_of_getElem? (i := 330) (by rfl))) rfl
abbrev b_C_shiftOf : ByteArray := prog_5_method_7_code
abbrev y_C_shiftOf : MethodName := ⟨"NextPaths$PathCode", "shiftOf", "(I)I"⟩
def w_C_shiftOf : List Cond := .code y_C_shiftOf b_C_shiftOf 1 (some .int) :: TT
set_option maxRecDepth 100000 in
theorem kc_C_shiftOf : Cond.code y_C_shiftOf b_C_shiftOf 1 (some .int) ∈ TT := tm (List.mem_append_right _ (List.mem_of_getElem? (i := 296) (by rfl))) rfl
abbrev b_P_init : ByteArray := prog_6_method_1_code
abbrev y_P_init : MethodName := ⟨"NextPaths$PathFinder", "<init>", "(LNextPaths$Graph;LNextPaths$PathHeap;)V"⟩
def w_P_init : List Cond := .code y_P_init b_P_init 3 none :: TT
set_option maxRecDepth 100000 in
theorem kc_P_init : Cond.code y_P_init b_P_init 3 none ∈ TT := tm (List.mem_append_right _ (List.mem_of_getElem? (i := 94) (by rfl))) rfl
abbrev b_P_findAll : ByteArray := prog_6_method_2_code
abbrev y_P_findAll : MethodName := ⟨"NextPaths$PathFinder", "findAll", "(II)V"⟩
def w_P_findAll : List Cond := .code y_P_findAll b_P_findAll 3 none :: TT
set_option maxRecDepth 100000 in
theorem kc_P_findAll : Cond.code y_P_findAll b_P_findAll 3 none ∈ TT := tm (List.mem_append_right _ (List.mem_of_getElem? (i := 279) (by rfl))) rfl
abbrev b_P_walkOn : ByteArray := prog_6_method_3_code
abbrev y_P_walkOn : MethodName := ⟨"NextPaths$PathFinder", "walkOn", "(LNextPaths$PathFinder;II)V"⟩
def w_P_walkOn : List Cond := .code y_P_walkOn b_P_walkOn 6 none :: TT
set_option maxRecDepth 100000 in
theorem kc_P_walkOn : Cond.code y_P_walkOn b_P_walkOn 6 none ∈ TT := tm (List.mem_append_right _ (List.mem_of_getElem? (i := 286) (by rfl))) rfl
abbrev b_P_code : ByteArray := prog_6_method_4_code
abbrev y_P_code : MethodName := ⟨"NextPaths$PathFinder", "code", "(I)J"⟩
def w_P_code : List Cond := .code y_P_code b_P_code 6 (some .long) :: TT
set_option maxRecDepth 100000 in
theorem kc_P_code : Cond.code y_P_code b_P_code 6 (some .long) ∈ TT := tm (List.mem_append_right _ (List.mem_of_getElem? (i := 290) (by rfl))) rfl
abbrev b_H_init : ByteArray := prog_7_method_1_code
abbrev y_H_init : MethodName := ⟨"NextPaths$PathHeap", "<init>", "()V"⟩
def w_H_init : List Cond := .code y_H_init b_H_init 1 none :: TT
set_option maxRecDepth 100000 in
theorem kc_H_init : Cond.code y_H_init b_H_init 1 none ∈ TT := tm (List.mem_append_right _ (List.mem_of_getElem? (i := 79) (by rfl))) rfl
abbrev b_H_empty : ByteArray := prog_7_method_2_code
abbrev y_H_empty : MethodName := ⟨"NextPaths$PathHeap", "empty", "()V"⟩
def w_H_empty : List Cond := .code y_H_empty b_H_empty 1 none :: TT
set_option maxRecDepth 100000 in
theorem kc_H_empty : Cond.code y_H_empty b_H_empty 1 none ∈ TT := tm (List.mem_append_right _ (List.mem_of_getElem? (i := 283) (by rfl))) rfl
abbrev b_H_add : ByteArray := prog_7_method_3_code
abbrev y_H_add : MethodName := ⟨"NextPaths$PathHeap", "add", "(J)V"⟩
def w_H_add : List Cond := .code y_H_add b_H_add 4 none :: TT
set_option maxRecDepth 100000 in
theorem kc_H_add : Cond.code y_H_add b_H_add 4 none ∈ TT := tm (List.mem_append_right _ (List.mem_of_getElem? (i := 303) (by rfl))) rfl
abbrev b_H_takeFirst : ByteArray := prog_7_method_4_code
abbrev y_H_takeFirst : MethodName := ⟨"NextPaths$PathHeap", "takeFirst", "()J"⟩
def w_H_takeFirst : List Cond := .code y_H_takeFirst b_H_takeFirst 3 (some .long) :: TT
set_option maxRecDepth 100000 in
theorem kc_H_takeFirst : Cond.code y_H_takeFirst b_H_takeFirst 3 (some .long) ∈ TT := tm (List.mem_append_right _ (List.mem_of_getElem? (i := 307) (by rfl))) rfl
abbrev b_H_sinkFromTop : ByteArray := prog_7_method_5_code
abbrev y_H_sinkFromTop : MethodName := ⟨"NextPaths$PathHeap", "sinkFromTop", "(J)V"⟩
def w_H_sinkFromTop : List Cond := .code y_H_sinkFromTop b_H_sinkFromTop 6 none :: TT
set_option maxRecDepth 100000 in
theorem kc_H_sinkFromTop : Cond.code y_H_sinkFromTop b_H_sinkFromTop 6 none ∈ TT := tm (List.mem_append_right _ (List.mem_of_getElem? (i := 312) (by rfl))) rfl
abbrev b_T_init : ByteArray := prog_8_method_1_code
abbrev y_T_init : MethodName := ⟨"NextPaths$ToldPath", "<init>", "()V"⟩
def w_T_init : List Cond := .code y_T_init b_T_init 1 none :: TT
set_option maxRecDepth 100000 in
theorem kc_T_init : Cond.code y_T_init b_T_init 1 none ∈ TT := tm (List.mem_append_right _ (List.mem_of_getElem? (i := 153) (by rfl))) rfl
abbrev b_T_empty : ByteArray := prog_8_method_2_code
abbrev y_T_empty : MethodName := ⟨"NextPaths$ToldPath", "empty", "()V"⟩
def w_T_empty : List Cond := .code y_T_empty b_T_empty 1 none :: TT
set_option maxRecDepth 100000 in
theorem kc_T_empty : Cond.code y_T_empty b_T_empty 1 none ∈ TT := tm (List.mem_append_right _ (List.mem_of_getElem? (i := 224) (by rfl))) rfl
abbrev b_T_tell : ByteArray := prog_8_method_3_code
abbrev y_T_tell : MethodName := ⟨"NextPaths$ToldPath", "tell", "(LNextPaths$Graph;J)I"⟩
def w_T_tell : List Cond := .code y_T_tell b_T_tell 5 (some .int) :: TT
set_option maxRecDepth 100000 in
theorem kc_T_tell : Cond.code y_T_tell b_T_tell 5 (some .int) ∈ TT := tm (List.mem_append_right _ (List.mem_of_getElem? (i := 316) (by rfl))) rfl
abbrev b_L_law : ByteArray := code
abbrev b_J_fill : ByteArray := prog_11_method_103_code
abbrev y_J_fill : MethodName := ⟨"java/util/Arrays", "fill", "([II)V"⟩
def w_J_fill : List Cond := .code y_J_fill b_J_fill 4 none :: TT
set_option maxRecDepth 100000 in
theorem kc_J_fill : Cond.code y_J_fill b_J_fill 4 none ∈ TT := tm (List.mem_append_right _ (List.mem_of_getElem? (i := 220) (by rfl))) rfl
theorem kn_L : Cond.initialized "NextPathsLaw" ∈ TT := tm (List.mem_append_right _ (List.mem_of_getElem? (i := 0) (by decide +kernel))) rfl
theorem kn_N : Cond.initialized "NextPaths" ∈ TT := tm (List.mem_append_right _ (List.mem_of_getElem? (i := 1) (by decide +kernel))) rfl
theorem kn_G : Cond.initialized "NextPaths$Graph" ∈ TT := tm (List.mem_append_right _ (List.mem_of_getElem? (i := 2) (by decide +kernel))) rfl
theorem kn_H : Cond.initialized "NextPaths$PathHeap" ∈ TT := tm (List.mem_append_right _ (List.mem_of_getElem? (i := 3) (by decide +kernel))) rfl
theorem kn_P : Cond.initialized "NextPaths$PathFinder" ∈ TT := tm (List.mem_append_right _ (List.mem_of_getElem? (i := 4) (by decide +kernel))) rfl
theorem kn_F : Cond.initialized "NextPaths$Flow" ∈ TT := tm (List.mem_append_right _ (List.mem_of_getElem? (i := 5) (by decide +kernel))) rfl
theorem kn_T : Cond.initialized "NextPaths$ToldPath" ∈ TT := tm (List.mem_append_right _ (List.mem_of_getElem? (i := 6) (by decide +kernel))) rfl
theorem kn_B : Cond.initialized "NextPaths$BestPairs" ∈ TT := tm (List.mem_append_right _ (List.mem_of_getElem? (i := 7) (by decide +kernel))) rfl
theorem kn_M : Cond.initialized "NextPathsModel" ∈ TT := tm (List.mem_append_right _ (List.mem_of_getElem? (i := 8) (by decide +kernel))) rfl
theorem kn_J : Cond.initialized "java/util/Arrays" ∈ TT := tm (List.mem_append_right _ (List.mem_of_getElem? (i := 9) (by decide +kernel))) rfl
theorem kn_C : Cond.initialized "NextPaths$PathCode" ∈ TT := tm (List.mem_append_right _ (List.mem_of_getElem? (i := 10) (by decide +kernel))) rfl
theorem k_L_7 : Cond.classLink "NextPathsLaw" (7 : Nat) "NextPaths" ∈ TT := tm (List.mem_append_right _ (List.mem_of_getElem? (i := 11) (by decide +kernel))) rfl
theorem kz_N : Cond.instantiable "NextPaths" (6 : Nat) ∈ TT := tm (List.mem_append_right _ (List.mem_of_getElem? (i := 12) (by decide +kernel))) rfl
theorem k_L_9 : Cond.methodLink "NextPathsLaw" (9 : Nat) ⟨"NextPaths", "<init>", "()V"⟩ ∈ TT := tm (List.mem_append_right _ (List.mem_of_getElem? (i := 13) (by decide +kernel))) rfl
theorem ki_N_init : Cond.instanceMethod ⟨"NextPaths", "<init>", "()V"⟩ ∈ TT := tm (List.mem_append_right _ (List.mem_of_getElem? (i := 14) (by decide +kernel))) rfl
theorem k_N_3 : Cond.methodLink "NextPaths" (3 : Nat) ⟨"java/lang/Object", "<init>", "()V"⟩ ∈ TT := tm (List.mem_append_right _ (List.mem_of_getElem? (i := 16) (by decide +kernel))) rfl
theorem ki_O : Cond.instanceMethod ⟨"java/lang/Object", "<init>", "()V"⟩ ∈ TT := tm (List.mem_append_right _ (List.mem_of_getElem? (i := 17) (by decide +kernel))) rfl
theorem kc_O : Cond.code ⟨"java/lang/Object", "<init>", "()V"⟩ object_method_1_code 1 none ∈ TT := tm (List.mem_append_right _ (List.mem_of_getElem? (i := 18) (by rfl))) rfl
theorem k_N_9 : Cond.classLink "NextPaths" (9 : Nat) "NextPaths$Graph" ∈ TT := tm (List.mem_append_right _ (List.mem_of_getElem? (i := 19) (by decide +kernel))) rfl
theorem kz_G : Cond.instantiable "NextPaths$Graph" (9 : Nat) ∈ TT := tm (List.mem_append_right _ (List.mem_of_getElem? (i := 20) (by decide +kernel))) rfl
theorem k_N_11 : Cond.methodLinkNest "NextPaths" (11 : Nat) ⟨"NextPaths$Graph", "<init>", "()V"⟩ "NextPaths" ∈ NN := nn_mem (List.mem_append_right _ (List.mem_of_getElem? (i := 21) (by decide +kernel))) rfl
theorem ki_G_init : Cond.instanceMethod ⟨"NextPaths$Graph", "<init>", "()V"⟩ ∈ TT := tm (List.mem_append_right _ (List.mem_of_getElem? (i := 22) (by decide +kernel))) rfl
theorem k_G_3 : Cond.methodLink "NextPaths$Graph" (3 : Nat) ⟨"java/lang/Object", "<init>", "()V"⟩ ∈ TT := tm (List.mem_append_right _ (List.mem_of_getElem? (i := 24) (by decide +kernel))) rfl
theorem k_G_28 : Cond.classLink "NextPaths$Graph" (28 : Nat) "[[I" ∈ TT := tm (List.mem_append_right _ (List.mem_of_getElem? (i := 25) (by decide +kernel))) rfl
theorem ka_grid : Cond.arrayOver (.array .int) ∈ lw_tbl := List.mem_append_right _ (List.mem_of_getElem? (i := 26) (by decide +kernel))
theorem k_G_36 : Cond.fieldLink "NextPaths$Graph" (36 : Nat) "NextPaths$Graph" "nodes" "I" ∈ TT := tm (List.mem_append_right _ (List.mem_of_getElem? (i := 27) (by decide +kernel))) rfl
theorem k_F_73 : Cond.fieldLinkNest "NextPaths$Flow" (73 : Nat) "NextPaths$Graph" "nodes" "I" "NextPaths" ∈ NN := nn_mem (List.mem_append_right _ (List.mem_of_getElem? (i := 28) (by decide +kernel))) rfl
theorem k_N_155 : Cond.fieldLinkNest "NextPaths" (155 : Nat) "NextPaths$Graph" "nodes" "I" "NextPaths" ∈ NN := nn_mem (List.mem_append_right _ (List.mem_of_getElem? (i := 29) (by decide +kernel))) rfl
theorem k_N_55 : Cond.fieldLinkNest "NextPaths" (55 : Nat) "NextPaths$Graph" "arcs" "I" "NextPaths" ∈ NN := nn_mem (List.mem_append_right _ (List.mem_of_getElem? (i := 30) (by decide +kernel))) rfl
theorem k_G_40 : Cond.fieldLink "NextPaths$Graph" (40 : Nat) "NextPaths$Graph" "arcs" "I" ∈ TT := tm (List.mem_append_right _ (List.mem_of_getElem? (i := 31) (by decide +kernel))) rfl
theorem k_F_51 : Cond.fieldLinkNest "NextPaths$Flow" (51 : Nat) "NextPaths$Graph" "arcs" "I" "NextPaths" ∈ NN := nn_mem (List.mem_append_right _ (List.mem_of_getElem? (i := 32) (by decide +kernel))) rfl
theorem k_G_9 : Cond.fieldLink "NextPaths$Graph" (9 : Nat) "NextPaths$Graph" "from" "[I" ∈ TT := tm (List.mem_append_right _ (List.mem_of_getElem? (i := 33) (by decide +kernel))) rfl
theorem k_F_60 : Cond.fieldLinkNest "NextPaths$Flow" (60 : Nat) "NextPaths$Graph" "from" "[I" "NextPaths" ∈ NN := nn_mem (List.mem_append_right _ (List.mem_of_getElem? (i := 34) (by decide +kernel))) rfl
theorem k_N_149 : Cond.fieldLinkNest "NextPaths" (149 : Nat) "NextPaths$Graph" "from" "[I" "NextPaths" ∈ NN := nn_mem (List.mem_append_right _ (List.mem_of_getElem? (i := 35) (by decide +kernel))) rfl
theorem k_G_15 : Cond.fieldLink "NextPaths$Graph" (15 : Nat) "NextPaths$Graph" "to" "[I" ∈ TT := tm (List.mem_append_right _ (List.mem_of_getElem? (i := 36) (by decide +kernel))) rfl
theorem k_P_57 : Cond.fieldLinkNest "NextPaths$PathFinder" (57 : Nat) "NextPaths$Graph" "to" "[I" "NextPaths" ∈ NN := nn_mem (List.mem_append_right _ (List.mem_of_getElem? (i := 37) (by decide +kernel))) rfl
theorem k_F_63 : Cond.fieldLinkNest "NextPaths$Flow" (63 : Nat) "NextPaths$Graph" "to" "[I" "NextPaths" ∈ NN := nn_mem (List.mem_append_right _ (List.mem_of_getElem? (i := 38) (by decide +kernel))) rfl
theorem k_N_152 : Cond.fieldLinkNest "NextPaths" (152 : Nat) "NextPaths$Graph" "to" "[I" "NextPaths" ∈ NN := nn_mem (List.mem_append_right _ (List.mem_of_getElem? (i := 39) (by decide +kernel))) rfl
theorem k_G_18 : Cond.fieldLink "NextPaths$Graph" (18 : Nat) "NextPaths$Graph" "weight" "[I" ∈ TT := tm (List.mem_append_right _ (List.mem_of_getElem? (i := 40) (by decide +kernel))) rfl
theorem k_P_63 : Cond.fieldLinkNest "NextPaths$PathFinder" (63 : Nat) "NextPaths$Graph" "weight" "[I" "NextPaths" ∈ NN := nn_mem (List.mem_append_right _ (List.mem_of_getElem? (i := 41) (by decide +kernel))) rfl
theorem k_F_66 : Cond.fieldLinkNest "NextPaths$Flow" (66 : Nat) "NextPaths$Graph" "weight" "[I" "NextPaths" ∈ NN := nn_mem (List.mem_append_right _ (List.mem_of_getElem? (i := 42) (by decide +kernel))) rfl
theorem k_N_83 : Cond.fieldLinkNest "NextPaths" (83 : Nat) "NextPaths$Graph" "weight" "[I" "NextPaths" ∈ NN := nn_mem (List.mem_append_right _ (List.mem_of_getElem? (i := 43) (by decide +kernel))) rfl
theorem k_G_21 : Cond.fieldLink "NextPaths$Graph" (21 : Nat) "NextPaths$Graph" "second" "[I" ∈ TT := tm (List.mem_append_right _ (List.mem_of_getElem? (i := 44) (by decide +kernel))) rfl
theorem k_N_87 : Cond.fieldLinkNest "NextPaths" (87 : Nat) "NextPaths$Graph" "second" "[I" "NextPaths" ∈ NN := nn_mem (List.mem_append_right _ (List.mem_of_getElem? (i := 45) (by decide +kernel))) rfl
theorem k_G_24 : Cond.fieldLink "NextPaths$Graph" (24 : Nat) "NextPaths$Graph" "isShut" "[Z" ∈ TT := tm (List.mem_append_right _ (List.mem_of_getElem? (i := 46) (by decide +kernel))) rfl
theorem k_P_60 : Cond.fieldLinkNest "NextPaths$PathFinder" (60 : Nat) "NextPaths$Graph" "isShut" "[Z" "NextPaths" ∈ NN := nn_mem (List.mem_append_right _ (List.mem_of_getElem? (i := 47) (by decide +kernel))) rfl
theorem k_F_56 : Cond.fieldLinkNest "NextPaths$Flow" (56 : Nat) "NextPaths$Graph" "isShut" "[Z" "NextPaths" ∈ NN := nn_mem (List.mem_append_right _ (List.mem_of_getElem? (i := 48) (by decide +kernel))) rfl
theorem k_N_90 : Cond.fieldLinkNest "NextPaths" (90 : Nat) "NextPaths$Graph" "isShut" "[Z" "NextPaths" ∈ NN := nn_mem (List.mem_append_right _ (List.mem_of_getElem? (i := 49) (by decide +kernel))) rfl
theorem k_G_30 : Cond.fieldLink "NextPaths$Graph" (30 : Nat) "NextPaths$Graph" "leaving" "[[I" ∈ TT := tm (List.mem_append_right _ (List.mem_of_getElem? (i := 50) (by decide +kernel))) rfl
theorem k_P_53 : Cond.fieldLinkNest "NextPaths$PathFinder" (53 : Nat) "NextPaths$Graph" "leaving" "[[I" "NextPaths" ∈ NN := nn_mem (List.mem_append_right _ (List.mem_of_getElem? (i := 51) (by decide +kernel))) rfl
theorem k_G_33 : Cond.fieldLink "NextPaths$Graph" (33 : Nat) "NextPaths$Graph" "leavingSize" "[I" ∈ TT := tm (List.mem_append_right _ (List.mem_of_getElem? (i := 52) (by decide +kernel))) rfl
theorem k_P_48 : Cond.fieldLinkNest "NextPaths$PathFinder" (48 : Nat) "NextPaths$Graph" "leavingSize" "[I" "NextPaths" ∈ NN := nn_mem (List.mem_append_right _ (List.mem_of_getElem? (i := 53) (by decide +kernel))) rfl
theorem ka_int : Cond.arrayClass .int ∈ TT := tm (List.mem_append_right _ (List.mem_of_getElem? (i := 73) (by decide +kernel))) rfl
theorem ka_boolean : Cond.arrayClass .boolean ∈ TT := tm (List.mem_append_right _ (List.mem_of_getElem? (i := 74) (by decide +kernel))) rfl
theorem k_N_16 : Cond.classLink "NextPaths" (16 : Nat) "NextPaths$PathHeap" ∈ TT := tm (List.mem_append_right _ (List.mem_of_getElem? (i := 75) (by decide +kernel))) rfl
theorem kz_H : Cond.instantiable "NextPaths$PathHeap" (2 : Nat) ∈ TT := tm (List.mem_append_right _ (List.mem_of_getElem? (i := 76) (by decide +kernel))) rfl
theorem k_N_18 : Cond.methodLinkNest "NextPaths" (18 : Nat) ⟨"NextPaths$PathHeap", "<init>", "()V"⟩ "NextPaths" ∈ NN := nn_mem (List.mem_append_right _ (List.mem_of_getElem? (i := 77) (by decide +kernel))) rfl
theorem ki_H_init : Cond.instanceMethod ⟨"NextPaths$PathHeap", "<init>", "()V"⟩ ∈ TT := tm (List.mem_append_right _ (List.mem_of_getElem? (i := 78) (by decide +kernel))) rfl
theorem k_H_3 : Cond.methodLink "NextPaths$PathHeap" (3 : Nat) ⟨"java/lang/Object", "<init>", "()V"⟩ ∈ TT := tm (List.mem_append_right _ (List.mem_of_getElem? (i := 80) (by decide +kernel))) rfl
theorem k_H_9 : Cond.fieldLink "NextPaths$PathHeap" (9 : Nat) "NextPaths$PathHeap" "paths" "[J" ∈ TT := tm (List.mem_append_right _ (List.mem_of_getElem? (i := 81) (by decide +kernel))) rfl
theorem k_H_15 : Cond.fieldLink "NextPaths$PathHeap" (15 : Nat) "NextPaths$PathHeap" "size" "I" ∈ TT := tm (List.mem_append_right _ (List.mem_of_getElem? (i := 82) (by decide +kernel))) rfl
theorem k_N_102 : Cond.fieldLinkNest "NextPaths" (102 : Nat) "NextPaths$PathHeap" "size" "I" "NextPaths" ∈ NN := nn_mem (List.mem_append_right _ (List.mem_of_getElem? (i := 83) (by decide +kernel))) rfl
theorem ka_long : Cond.arrayClass .long ∈ TT := tm (List.mem_append_right _ (List.mem_of_getElem? (i := 89) (by decide +kernel))) rfl
theorem k_N_23 : Cond.classLink "NextPaths" (23 : Nat) "NextPaths$PathFinder" ∈ TT := tm (List.mem_append_right _ (List.mem_of_getElem? (i := 90) (by decide +kernel))) rfl
theorem kz_P : Cond.instantiable "NextPaths$PathFinder" (5 : Nat) ∈ TT := tm (List.mem_append_right _ (List.mem_of_getElem? (i := 91) (by decide +kernel))) rfl
theorem k_N_25 : Cond.methodLinkNest "NextPaths" (25 : Nat) ⟨"NextPaths$PathFinder", "<init>", "(LNextPaths$Graph;LNextPaths$PathHeap;)V"⟩ "NextPaths" ∈ NN := nn_mem (List.mem_append_right _ (List.mem_of_getElem? (i := 92) (by decide +kernel))) rfl
theorem ki_P_init : Cond.instanceMethod ⟨"NextPaths$PathFinder", "<init>", "(LNextPaths$Graph;LNextPaths$PathHeap;)V"⟩ ∈ TT := tm (List.mem_append_right _ (List.mem_of_getElem? (i := 93) (by decide +kernel))) rfl
theorem k_P_3 : Cond.methodLink "NextPaths$PathFinder" (3 : Nat) ⟨"java/lang/Object", "<init>", "()V"⟩ ∈ TT := tm (List.mem_append_right _ (List.mem_of_getElem? (i := 95) (by decide +kernel))) rfl
theorem k_P_19 : Cond.fieldLink "NextPaths$PathFinder" (19 : Nat) "NextPaths$PathFinder" "graph" "LNextPaths$Graph;" ∈ TT := tm (List.mem_append_right _ (List.mem_of_getElem? (i := 96) (by decide +kernel))) rfl
theorem k_P_23 : Cond.fieldLink "NextPaths$PathFinder" (23 : Nat) "NextPaths$PathFinder" "heap" "LNextPaths$PathHeap;" ∈ TT := tm (List.mem_append_right _ (List.mem_of_getElem? (i := 97) (by decide +kernel))) rfl
theorem k_P_9 : Cond.fieldLink "NextPaths$PathFinder" (9 : Nat) "NextPaths$PathFinder" "been" "[Z" ∈ TT := tm (List.mem_append_right _ (List.mem_of_getElem? (i := 98) (by decide +kernel))) rfl
theorem k_P_15 : Cond.fieldLink "NextPaths$PathFinder" (15 : Nat) "NextPaths$PathFinder" "chosen" "[I" ∈ TT := tm (List.mem_append_right _ (List.mem_of_getElem? (i := 99) (by decide +kernel))) rfl
theorem k_P_32 : Cond.fieldLink "NextPaths$PathFinder" (32 : Nat) "NextPaths$PathFinder" "goal" "I" ∈ TT := tm (List.mem_append_right _ (List.mem_of_getElem? (i := 100) (by decide +kernel))) rfl
theorem k_N_32 : Cond.classLink "NextPaths" (32 : Nat) "NextPaths$Flow" ∈ TT := tm (List.mem_append_right _ (List.mem_of_getElem? (i := 112) (by decide +kernel))) rfl
theorem kz_F : Cond.instantiable "NextPaths$Flow" (10 : Nat) ∈ TT := tm (List.mem_append_right _ (List.mem_of_getElem? (i := 113) (by decide +kernel))) rfl
theorem k_N_34 : Cond.methodLinkNest "NextPaths" (34 : Nat) ⟨"NextPaths$Flow", "<init>", "(LNextPaths$Graph;)V"⟩ "NextPaths" ∈ NN := nn_mem (List.mem_append_right _ (List.mem_of_getElem? (i := 114) (by decide +kernel))) rfl
theorem ki_F_init : Cond.instanceMethod ⟨"NextPaths$Flow", "<init>", "(LNextPaths$Graph;)V"⟩ ∈ TT := tm (List.mem_append_right _ (List.mem_of_getElem? (i := 115) (by decide +kernel))) rfl
theorem k_F_3 : Cond.methodLink "NextPaths$Flow" (3 : Nat) ⟨"java/lang/Object", "<init>", "()V"⟩ ∈ TT := tm (List.mem_append_right _ (List.mem_of_getElem? (i := 117) (by decide +kernel))) rfl
theorem k_F_30 : Cond.fieldLink "NextPaths$Flow" (30 : Nat) "NextPaths$Flow" "graph" "LNextPaths$Graph;" ∈ TT := tm (List.mem_append_right _ (List.mem_of_getElem? (i := 118) (by decide +kernel))) rfl
theorem k_F_11 : Cond.fieldLink "NextPaths$Flow" (11 : Nat) "NextPaths$Flow" "tail" "[I" ∈ TT := tm (List.mem_append_right _ (List.mem_of_getElem? (i := 119) (by decide +kernel))) rfl
theorem k_F_15 : Cond.fieldLink "NextPaths$Flow" (15 : Nat) "NextPaths$Flow" "head" "[I" ∈ TT := tm (List.mem_append_right _ (List.mem_of_getElem? (i := 120) (by decide +kernel))) rfl
theorem k_F_18 : Cond.fieldLink "NextPaths$Flow" (18 : Nat) "NextPaths$Flow" "cost" "[I" ∈ TT := tm (List.mem_append_right _ (List.mem_of_getElem? (i := 121) (by decide +kernel))) rfl
theorem k_F_21 : Cond.fieldLink "NextPaths$Flow" (21 : Nat) "NextPaths$Flow" "room" "[I" ∈ TT := tm (List.mem_append_right _ (List.mem_of_getElem? (i := 122) (by decide +kernel))) rfl
theorem k_F_24 : Cond.fieldLink "NextPaths$Flow" (24 : Nat) "NextPaths$Flow" "distance" "[I" ∈ TT := tm (List.mem_append_right _ (List.mem_of_getElem? (i := 123) (by decide +kernel))) rfl
theorem k_F_27 : Cond.fieldLink "NextPaths$Flow" (27 : Nat) "NextPaths$Flow" "lastEdge" "[I" ∈ TT := tm (List.mem_append_right _ (List.mem_of_getElem? (i := 124) (by decide +kernel))) rfl
theorem k_F_34 : Cond.fieldLink "NextPaths$Flow" (34 : Nat) "NextPaths$Flow" "edges" "I" ∈ TT := tm (List.mem_append_right _ (List.mem_of_getElem? (i := 125) (by decide +kernel))) rfl
theorem k_F_42 : Cond.fieldLink "NextPaths$Flow" (42 : Nat) "NextPaths$Flow" "source" "I" ∈ TT := tm (List.mem_append_right _ (List.mem_of_getElem? (i := 126) (by decide +kernel))) rfl
theorem k_F_48 : Cond.fieldLink "NextPaths$Flow" (48 : Nat) "NextPaths$Flow" "goal" "I" ∈ TT := tm (List.mem_append_right _ (List.mem_of_getElem? (i := 127) (by decide +kernel))) rfl
theorem k_N_41 : Cond.classLink "NextPaths" (41 : Nat) "NextPaths$ToldPath" ∈ TT := tm (List.mem_append_right _ (List.mem_of_getElem? (i := 149) (by decide +kernel))) rfl
theorem kz_T : Cond.instantiable "NextPaths$ToldPath" (4 : Nat) ∈ TT := tm (List.mem_append_right _ (List.mem_of_getElem? (i := 150) (by decide +kernel))) rfl
theorem k_N_43 : Cond.methodLinkNest "NextPaths" (43 : Nat) ⟨"NextPaths$ToldPath", "<init>", "()V"⟩ "NextPaths" ∈ NN := nn_mem (List.mem_append_right _ (List.mem_of_getElem? (i := 151) (by decide +kernel))) rfl
theorem ki_T_init : Cond.instanceMethod ⟨"NextPaths$ToldPath", "<init>", "()V"⟩ ∈ TT := tm (List.mem_append_right _ (List.mem_of_getElem? (i := 152) (by decide +kernel))) rfl
theorem k_T_3 : Cond.methodLink "NextPaths$ToldPath" (3 : Nat) ⟨"java/lang/Object", "<init>", "()V"⟩ ∈ TT := tm (List.mem_append_right _ (List.mem_of_getElem? (i := 154) (by decide +kernel))) rfl
theorem k_T_9 : Cond.fieldLink "NextPaths$ToldPath" (9 : Nat) "NextPaths$ToldPath" "steps" "[I" ∈ TT := tm (List.mem_append_right _ (List.mem_of_getElem? (i := 155) (by decide +kernel))) rfl
theorem k_N_142 : Cond.fieldLinkNest "NextPaths" (142 : Nat) "NextPaths$ToldPath" "steps" "[I" "NextPaths" ∈ NN := nn_mem (List.mem_append_right _ (List.mem_of_getElem? (i := 156) (by decide +kernel))) rfl
theorem k_T_15 : Cond.fieldLink "NextPaths$ToldPath" (15 : Nat) "NextPaths$ToldPath" "length" "I" ∈ TT := tm (List.mem_append_right _ (List.mem_of_getElem? (i := 157) (by decide +kernel))) rfl
theorem k_N_139 : Cond.fieldLinkNest "NextPaths" (139 : Nat) "NextPaths$ToldPath" "length" "I" "NextPaths" ∈ NN := nn_mem (List.mem_append_right _ (List.mem_of_getElem? (i := 158) (by decide +kernel))) rfl
theorem k_T_28 : Cond.fieldLink "NextPaths$ToldPath" (28 : Nat) "NextPaths$ToldPath" "weight" "I" ∈ TT := tm (List.mem_append_right _ (List.mem_of_getElem? (i := 159) (by decide +kernel))) rfl
theorem k_N_145 : Cond.fieldLinkNest "NextPaths" (145 : Nat) "NextPaths$ToldPath" "weight" "I" "NextPaths" ∈ NN := nn_mem (List.mem_append_right _ (List.mem_of_getElem? (i := 160) (by decide +kernel))) rfl
theorem k_T_36 : Cond.fieldLink "NextPaths$ToldPath" (36 : Nat) "NextPaths$ToldPath" "second" "I" ∈ TT := tm (List.mem_append_right _ (List.mem_of_getElem? (i := 161) (by decide +kernel))) rfl
theorem k_N_147 : Cond.fieldLinkNest "NextPaths" (147 : Nat) "NextPaths$ToldPath" "second" "I" "NextPaths" ∈ NN := nn_mem (List.mem_append_right _ (List.mem_of_getElem? (i := 162) (by decide +kernel))) rfl
theorem k_N_48 : Cond.classLink "NextPaths" (48 : Nat) "NextPaths$BestPairs" ∈ TT := tm (List.mem_append_right _ (List.mem_of_getElem? (i := 172) (by decide +kernel))) rfl
theorem kz_B : Cond.instantiable "NextPaths$BestPairs" (3 : Nat) ∈ TT := tm (List.mem_append_right _ (List.mem_of_getElem? (i := 173) (by decide +kernel))) rfl
theorem k_N_50 : Cond.methodLinkNest "NextPaths" (50 : Nat) ⟨"NextPaths$BestPairs", "<init>", "()V"⟩ "NextPaths" ∈ NN := nn_mem (List.mem_append_right _ (List.mem_of_getElem? (i := 174) (by decide +kernel))) rfl
theorem ki_B_init : Cond.instanceMethod ⟨"NextPaths$BestPairs", "<init>", "()V"⟩ ∈ TT := tm (List.mem_append_right _ (List.mem_of_getElem? (i := 175) (by decide +kernel))) rfl
theorem k_B_3 : Cond.methodLink "NextPaths$BestPairs" (3 : Nat) ⟨"java/lang/Object", "<init>", "()V"⟩ ∈ TT := tm (List.mem_append_right _ (List.mem_of_getElem? (i := 177) (by decide +kernel))) rfl
theorem k_B_9 : Cond.fieldLink "NextPaths$BestPairs" (9 : Nat) "NextPaths$BestPairs" "weights" "[I" ∈ TT := tm (List.mem_append_right _ (List.mem_of_getElem? (i := 178) (by decide +kernel))) rfl
theorem k_N_133 : Cond.fieldLinkNest "NextPaths" (133 : Nat) "NextPaths$BestPairs" "weights" "[I" "NextPaths" ∈ NN := nn_mem (List.mem_append_right _ (List.mem_of_getElem? (i := 179) (by decide +kernel))) rfl
theorem k_B_15 : Cond.fieldLink "NextPaths$BestPairs" (15 : Nat) "NextPaths$BestPairs" "seconds" "[I" ∈ TT := tm (List.mem_append_right _ (List.mem_of_getElem? (i := 180) (by decide +kernel))) rfl
theorem k_N_136 : Cond.fieldLinkNest "NextPaths" (136 : Nat) "NextPaths$BestPairs" "seconds" "[I" "NextPaths" ∈ NN := nn_mem (List.mem_append_right _ (List.mem_of_getElem? (i := 181) (by decide +kernel))) rfl
theorem k_B_18 : Cond.fieldLink "NextPaths$BestPairs" (18 : Nat) "NextPaths$BestPairs" "size" "I" ∈ TT := tm (List.mem_append_right _ (List.mem_of_getElem? (i := 182) (by decide +kernel))) rfl
theorem k_N_132 : Cond.fieldLinkNest "NextPaths" (132 : Nat) "NextPaths$BestPairs" "size" "I" "NextPaths" ∈ NN := nn_mem (List.mem_append_right _ (List.mem_of_getElem? (i := 183) (by decide +kernel))) rfl
theorem k_N_12 : Cond.fieldLink "NextPaths" (12 : Nat) "NextPaths" "graph" "LNextPaths$Graph;" ∈ TT := tm (List.mem_append_right _ (List.mem_of_getElem? (i := 191) (by decide +kernel))) rfl
theorem k_N_19 : Cond.fieldLink "NextPaths" (19 : Nat) "NextPaths" "heap" "LNextPaths$PathHeap;" ∈ TT := tm (List.mem_append_right _ (List.mem_of_getElem? (i := 192) (by decide +kernel))) rfl
theorem k_N_28 : Cond.fieldLink "NextPaths" (28 : Nat) "NextPaths" "finder" "LNextPaths$PathFinder;" ∈ TT := tm (List.mem_append_right _ (List.mem_of_getElem? (i := 193) (by decide +kernel))) rfl
theorem k_N_37 : Cond.fieldLink "NextPaths" (37 : Nat) "NextPaths" "flow" "LNextPaths$Flow;" ∈ TT := tm (List.mem_append_right _ (List.mem_of_getElem? (i := 194) (by decide +kernel))) rfl
theorem k_N_44 : Cond.fieldLink "NextPaths" (44 : Nat) "NextPaths" "lastTold" "LNextPaths$ToldPath;" ∈ TT := tm (List.mem_append_right _ (List.mem_of_getElem? (i := 195) (by decide +kernel))) rfl
theorem k_N_51 : Cond.fieldLink "NextPaths" (51 : Nat) "NextPaths" "lastPairs" "LNextPaths$BestPairs;" ∈ TT := tm (List.mem_append_right _ (List.mem_of_getElem? (i := 196) (by decide +kernel))) rfl
theorem k_L_13 : Cond.methodLink "NextPathsLaw" (13 : Nat) ⟨"NextPaths", "clear", "()I"⟩ ∈ TT := tm (List.mem_append_right _ (List.mem_of_getElem? (i := 210) (by decide +kernel))) rfl
theorem ki_N_clear : Cond.instanceMethod ⟨"NextPaths", "clear", "()I"⟩ ∈ TT := tm (List.mem_append_right _ (List.mem_of_getElem? (i := 211) (by decide +kernel))) rfl
theorem kx_N_clear : Cond.selects "NextPaths" ⟨"NextPaths", "clear", "()I"⟩ ⟨"NextPaths", "clear", "()I"⟩ ∈ TT := tm (List.mem_append_right _ (List.mem_of_getElem? (i := 212) (by decide +kernel))) rfl
theorem k_N_59 : Cond.methodLinkNest "NextPaths" (59 : Nat) ⟨"NextPaths$Graph", "empty", "()V"⟩ "NextPaths" ∈ NN := nn_mem (List.mem_append_right _ (List.mem_of_getElem? (i := 214) (by decide +kernel))) rfl
theorem ki_G_empty : Cond.instanceMethod ⟨"NextPaths$Graph", "empty", "()V"⟩ ∈ TT := tm (List.mem_append_right _ (List.mem_of_getElem? (i := 216) (by decide +kernel))) rfl
theorem k_G_43 : Cond.methodLink "NextPaths$Graph" (43 : Nat) ⟨"java/util/Arrays", "fill", "([II)V"⟩ ∈ TT := tm (List.mem_append_right _ (List.mem_of_getElem? (i := 218) (by decide +kernel))) rfl
theorem ks_J_fill : Cond.static ⟨"java/util/Arrays", "fill", "([II)V"⟩ ∈ TT := tm (List.mem_append_right _ (List.mem_of_getElem? (i := 219) (by decide +kernel))) rfl
theorem k_N_62 : Cond.methodLinkNest "NextPaths" (62 : Nat) ⟨"NextPaths$ToldPath", "empty", "()V"⟩ "NextPaths" ∈ NN := nn_mem (List.mem_append_right _ (List.mem_of_getElem? (i := 221) (by decide +kernel))) rfl
theorem ki_T_empty : Cond.instanceMethod ⟨"NextPaths$ToldPath", "empty", "()V"⟩ ∈ TT := tm (List.mem_append_right _ (List.mem_of_getElem? (i := 223) (by decide +kernel))) rfl
theorem k_N_63 : Cond.methodLinkNest "NextPaths" (63 : Nat) ⟨"NextPaths$BestPairs", "empty", "()V"⟩ "NextPaths" ∈ NN := nn_mem (List.mem_append_right _ (List.mem_of_getElem? (i := 225) (by decide +kernel))) rfl
theorem ki_B_empty : Cond.instanceMethod ⟨"NextPaths$BestPairs", "empty", "()V"⟩ ∈ TT := tm (List.mem_append_right _ (List.mem_of_getElem? (i := 227) (by decide +kernel))) rfl
theorem k_L_18 : Cond.methodLink "NextPathsLaw" (18 : Nat) ⟨"NextPaths", "node", "()I"⟩ ∈ TT := tm (List.mem_append_right _ (List.mem_of_getElem? (i := 229) (by decide +kernel))) rfl
theorem ki_N_node : Cond.instanceMethod ⟨"NextPaths", "node", "()I"⟩ ∈ TT := tm (List.mem_append_right _ (List.mem_of_getElem? (i := 230) (by decide +kernel))) rfl
theorem kx_N_node : Cond.selects "NextPaths" ⟨"NextPaths", "node", "()I"⟩ ⟨"NextPaths", "node", "()I"⟩ ∈ TT := tm (List.mem_append_right _ (List.mem_of_getElem? (i := 231) (by decide +kernel))) rfl
theorem k_N_64 : Cond.methodLinkNest "NextPaths" (64 : Nat) ⟨"NextPaths$Graph", "addNode", "()I"⟩ "NextPaths" ∈ NN := nn_mem (List.mem_append_right _ (List.mem_of_getElem? (i := 233) (by decide +kernel))) rfl
theorem ki_G_addNode : Cond.instanceMethod ⟨"NextPaths$Graph", "addNode", "()I"⟩ ∈ TT := tm (List.mem_append_right _ (List.mem_of_getElem? (i := 235) (by decide +kernel))) rfl
theorem k_L_22 : Cond.methodLink "NextPathsLaw" (22 : Nat) ⟨"NextPaths", "arc", "(IIII)I"⟩ ∈ TT := tm (List.mem_append_right _ (List.mem_of_getElem? (i := 237) (by decide +kernel))) rfl
theorem ki_N_arc : Cond.instanceMethod ⟨"NextPaths", "arc", "(IIII)I"⟩ ∈ TT := tm (List.mem_append_right _ (List.mem_of_getElem? (i := 238) (by decide +kernel))) rfl
theorem kx_N_arc : Cond.selects "NextPaths" ⟨"NextPaths", "arc", "(IIII)I"⟩ ⟨"NextPaths", "arc", "(IIII)I"⟩ ∈ TT := tm (List.mem_append_right _ (List.mem_of_getElem? (i := 239) (by decide +kernel))) rfl
theorem k_N_68 : Cond.methodLinkNest "NextPaths" (68 : Nat) ⟨"NextPaths$Graph", "areTwoNodes", "(II)Z"⟩ "NextPaths" ∈ NN := nn_mem (List.mem_append_right _ (List.mem_of_getElem? (i := 241) (by decide +kernel))) rfl
theorem ki_G_areTwoNodes : Cond.instanceMethod ⟨"NextPaths$Graph", "areTwoNodes", "(II)Z"⟩ ∈ TT := tm (List.mem_append_right _ (List.mem_of_getElem? (i := 243) (by decide +kernel))) rfl
theorem k_G_53 : Cond.methodLink "NextPaths$Graph" (53 : Nat) ⟨"NextPaths$Graph", "isNode", "(I)Z"⟩ ∈ TT := tm (List.mem_append_right _ (List.mem_of_getElem? (i := 245) (by decide +kernel))) rfl
theorem ki_G_isNode : Cond.instanceMethod ⟨"NextPaths$Graph", "isNode", "(I)Z"⟩ ∈ TT := tm (List.mem_append_right _ (List.mem_of_getElem? (i := 247) (by decide +kernel))) rfl
theorem k_G_49 : Cond.methodLinkNest "NextPaths$Graph" (49 : Nat) ⟨"NextPaths", "liesIn", "(III)Z"⟩ "NextPaths" ∈ NN := nn_mem (List.mem_append_right _ (List.mem_of_getElem? (i := 249) (by decide +kernel))) rfl
theorem ks_N_liesIn : Cond.static ⟨"NextPaths", "liesIn", "(III)Z"⟩ ∈ TT := tm (List.mem_append_right _ (List.mem_of_getElem? (i := 250) (by decide +kernel))) rfl
theorem k_N_72 : Cond.methodLink "NextPaths" (72 : Nat) ⟨"NextPaths", "isWeight", "(I)Z"⟩ ∈ TT := tm (List.mem_append_right _ (List.mem_of_getElem? (i := 252) (by decide +kernel))) rfl
theorem ks_N_isWeight : Cond.static ⟨"NextPaths", "isWeight", "(I)Z"⟩ ∈ TT := tm (List.mem_append_right _ (List.mem_of_getElem? (i := 253) (by decide +kernel))) rfl
theorem k_N_94 : Cond.methodLink "NextPaths" (94 : Nat) ⟨"NextPaths", "liesIn", "(III)Z"⟩ ∈ TT := tm (List.mem_append_right _ (List.mem_of_getElem? (i := 255) (by decide +kernel))) rfl
theorem k_N_76 : Cond.methodLinkNest "NextPaths" (76 : Nat) ⟨"NextPaths$Graph", "addArc", "(IIII)I"⟩ "NextPaths" ∈ NN := nn_mem (List.mem_append_right _ (List.mem_of_getElem? (i := 256) (by decide +kernel))) rfl
theorem ki_G_addArc : Cond.instanceMethod ⟨"NextPaths$Graph", "addArc", "(IIII)I"⟩ ∈ TT := tm (List.mem_append_right _ (List.mem_of_getElem? (i := 258) (by decide +kernel))) rfl
theorem k_L_27 : Cond.methodLink "NextPathsLaw" (27 : Nat) ⟨"NextPaths", "change", "(III)I"⟩ ∈ TT := tm (List.mem_append_right _ (List.mem_of_getElem? (i := 260) (by decide +kernel))) rfl
theorem ki_N_change : Cond.instanceMethod ⟨"NextPaths", "change", "(III)I"⟩ ∈ TT := tm (List.mem_append_right _ (List.mem_of_getElem? (i := 261) (by decide +kernel))) rfl
theorem kx_N_change : Cond.selects "NextPaths" ⟨"NextPaths", "change", "(III)I"⟩ ⟨"NextPaths", "change", "(III)I"⟩ ∈ TT := tm (List.mem_append_right _ (List.mem_of_getElem? (i := 262) (by decide +kernel))) rfl
theorem k_N_80 : Cond.methodLinkNest "NextPaths" (80 : Nat) ⟨"NextPaths$Graph", "isArc", "(I)Z"⟩ "NextPaths" ∈ NN := nn_mem (List.mem_append_right _ (List.mem_of_getElem? (i := 264) (by decide +kernel))) rfl
theorem ki_G_isArc : Cond.instanceMethod ⟨"NextPaths$Graph", "isArc", "(I)Z"⟩ ∈ TT := tm (List.mem_append_right _ (List.mem_of_getElem? (i := 266) (by decide +kernel))) rfl
theorem k_L_32 : Cond.methodLink "NextPathsLaw" (32 : Nat) ⟨"NextPaths", "shut", "(IZ)I"⟩ ∈ TT := tm (List.mem_append_right _ (List.mem_of_getElem? (i := 268) (by decide +kernel))) rfl
theorem ki_N_shut : Cond.instanceMethod ⟨"NextPaths", "shut", "(IZ)I"⟩ ∈ TT := tm (List.mem_append_right _ (List.mem_of_getElem? (i := 269) (by decide +kernel))) rfl
theorem kx_N_shut : Cond.selects "NextPaths" ⟨"NextPaths", "shut", "(IZ)I"⟩ ⟨"NextPaths", "shut", "(IZ)I"⟩ ∈ TT := tm (List.mem_append_right _ (List.mem_of_getElem? (i := 270) (by decide +kernel))) rfl
theorem k_L_37 : Cond.methodLink "NextPathsLaw" (37 : Nat) ⟨"NextPaths", "next", "(III)I"⟩ ∈ TT := tm (List.mem_append_right _ (List.mem_of_getElem? (i := 272) (by decide +kernel))) rfl
theorem ki_N_next : Cond.instanceMethod ⟨"NextPaths", "next", "(III)I"⟩ ∈ TT := tm (List.mem_append_right _ (List.mem_of_getElem? (i := 273) (by decide +kernel))) rfl
theorem kx_N_next : Cond.selects "NextPaths" ⟨"NextPaths", "next", "(III)I"⟩ ⟨"NextPaths", "next", "(III)I"⟩ ∈ TT := tm (List.mem_append_right _ (List.mem_of_getElem? (i := 274) (by decide +kernel))) rfl
theorem k_N_98 : Cond.methodLinkNest "NextPaths" (98 : Nat) ⟨"NextPaths$PathFinder", "findAll", "(II)V"⟩ "NextPaths" ∈ NN := nn_mem (List.mem_append_right _ (List.mem_of_getElem? (i := 276) (by decide +kernel))) rfl
theorem ki_P_findAll : Cond.instanceMethod ⟨"NextPaths$PathFinder", "findAll", "(II)V"⟩ ∈ TT := tm (List.mem_append_right _ (List.mem_of_getElem? (i := 278) (by decide +kernel))) rfl
theorem k_P_27 : Cond.methodLinkNest "NextPaths$PathFinder" (27 : Nat) ⟨"NextPaths$PathHeap", "empty", "()V"⟩ "NextPaths" ∈ NN := nn_mem (List.mem_append_right _ (List.mem_of_getElem? (i := 280) (by decide +kernel))) rfl
theorem ki_H_empty : Cond.instanceMethod ⟨"NextPaths$PathHeap", "empty", "()V"⟩ ∈ TT := tm (List.mem_append_right _ (List.mem_of_getElem? (i := 282) (by decide +kernel))) rfl
theorem k_P_36 : Cond.methodLink "NextPaths$PathFinder" (36 : Nat) ⟨"NextPaths$PathFinder", "walkOn", "(LNextPaths$PathFinder;II)V"⟩ ∈ TT := tm (List.mem_append_right _ (List.mem_of_getElem? (i := 284) (by decide +kernel))) rfl
theorem ks_P_walkOn : Cond.static ⟨"NextPaths$PathFinder", "walkOn", "(LNextPaths$PathFinder;II)V"⟩ ∈ TT := tm (List.mem_append_right _ (List.mem_of_getElem? (i := 285) (by decide +kernel))) rfl
theorem k_P_40 : Cond.methodLink "NextPaths$PathFinder" (40 : Nat) ⟨"NextPaths$PathFinder", "code", "(I)J"⟩ ∈ TT := tm (List.mem_append_right _ (List.mem_of_getElem? (i := 287) (by decide +kernel))) rfl
theorem ki_P_code : Cond.instanceMethod ⟨"NextPaths$PathFinder", "code", "(I)J"⟩ ∈ TT := tm (List.mem_append_right _ (List.mem_of_getElem? (i := 289) (by decide +kernel))) rfl
theorem k_P_66 : Cond.methodLinkNest "NextPaths$PathFinder" (66 : Nat) ⟨"NextPaths$PathCode", "arcAt", "(II)J"⟩ "NextPaths" ∈ NN := nn_mem (List.mem_append_right _ (List.mem_of_getElem? (i := 291) (by decide +kernel))) rfl
theorem ks_C_arcAt : Cond.static ⟨"NextPaths$PathCode", "arcAt", "(II)J"⟩ ∈ TT := tm (List.mem_append_right _ (List.mem_of_getElem? (i := 292) (by decide +kernel))) rfl
theorem k_C_11 : Cond.methodLink "NextPaths$PathCode" (11 : Nat) ⟨"NextPaths$PathCode", "shiftOf", "(I)I"⟩ ∈ TT := tm (List.mem_append_right _ (List.mem_of_getElem? (i := 294) (by decide +kernel))) rfl
theorem ks_C_shiftOf : Cond.static ⟨"NextPaths$PathCode", "shiftOf", "(I)I"⟩ ∈ TT := tm (List.mem_append_right _ (List.mem_of_getElem? (i := 295) (by decide +kernel))) rfl
theorem k_P_72 : Cond.methodLinkNest "NextPaths$PathFinder" (72 : Nat) ⟨"NextPaths$PathCode", "head", "(II)J"⟩ "NextPaths" ∈ NN := nn_mem (List.mem_append_right _ (List.mem_of_getElem? (i := 297) (by decide +kernel))) rfl
theorem ks_C_head : Cond.static ⟨"NextPaths$PathCode", "head", "(II)J"⟩ ∈ TT := tm (List.mem_append_right _ (List.mem_of_getElem? (i := 298) (by decide +kernel))) rfl
theorem k_P_44 : Cond.methodLinkNest "NextPaths$PathFinder" (44 : Nat) ⟨"NextPaths$PathHeap", "add", "(J)V"⟩ "NextPaths" ∈ NN := nn_mem (List.mem_append_right _ (List.mem_of_getElem? (i := 300) (by decide +kernel))) rfl
theorem ki_H_add : Cond.instanceMethod ⟨"NextPaths$PathHeap", "add", "(J)V"⟩ ∈ TT := tm (List.mem_append_right _ (List.mem_of_getElem? (i := 302) (by decide +kernel))) rfl
theorem k_N_105 : Cond.methodLinkNest "NextPaths" (105 : Nat) ⟨"NextPaths$PathHeap", "takeFirst", "()J"⟩ "NextPaths" ∈ NN := nn_mem (List.mem_append_right _ (List.mem_of_getElem? (i := 304) (by decide +kernel))) rfl
theorem ki_H_takeFirst : Cond.instanceMethod ⟨"NextPaths$PathHeap", "takeFirst", "()J"⟩ ∈ TT := tm (List.mem_append_right _ (List.mem_of_getElem? (i := 306) (by decide +kernel))) rfl
theorem k_H_19 : Cond.constantLong "NextPaths$PathHeap" (19 : Nat) (-1 : Int64) ∈ TT := tm (List.mem_append_right _ (List.mem_of_getElem? (i := 308) (by decide +kernel))) rfl
theorem k_H_21 : Cond.methodLink "NextPaths$PathHeap" (21 : Nat) ⟨"NextPaths$PathHeap", "sinkFromTop", "(J)V"⟩ ∈ TT := tm (List.mem_append_right _ (List.mem_of_getElem? (i := 309) (by decide +kernel))) rfl
theorem ki_H_sinkFromTop : Cond.instanceMethod ⟨"NextPaths$PathHeap", "sinkFromTop", "(J)V"⟩ ∈ TT := tm (List.mem_append_right _ (List.mem_of_getElem? (i := 311) (by decide +kernel))) rfl
theorem k_N_109 : Cond.methodLinkNest "NextPaths" (109 : Nat) ⟨"NextPaths$ToldPath", "tell", "(LNextPaths$Graph;J)I"⟩ "NextPaths" ∈ NN := nn_mem (List.mem_append_right _ (List.mem_of_getElem? (i := 313) (by decide +kernel))) rfl
theorem ki_T_tell : Cond.instanceMethod ⟨"NextPaths$ToldPath", "tell", "(LNextPaths$Graph;J)I"⟩ ∈ TT := tm (List.mem_append_right _ (List.mem_of_getElem? (i := 315) (by decide +kernel))) rfl
theorem k_T_19 : Cond.methodLinkNest "NextPaths$ToldPath" (19 : Nat) ⟨"NextPaths$PathCode", "lengthIn", "(J)I"⟩ "NextPaths" ∈ NN := nn_mem (List.mem_append_right _ (List.mem_of_getElem? (i := 317) (by decide +kernel))) rfl
theorem ks_C_lengthIn : Cond.static ⟨"NextPaths$PathCode", "lengthIn", "(J)I"⟩ ∈ TT := tm (List.mem_append_right _ (List.mem_of_getElem? (i := 318) (by decide +kernel))) rfl
theorem k_T_25 : Cond.methodLinkNest "NextPaths$ToldPath" (25 : Nat) ⟨"NextPaths$PathCode", "weightIn", "(J)I"⟩ "NextPaths" ∈ NN := nn_mem (List.mem_append_right _ (List.mem_of_getElem? (i := 320) (by decide +kernel))) rfl
theorem ks_C_weightIn : Cond.static ⟨"NextPaths$PathCode", "weightIn", "(J)I"⟩ ∈ TT := tm (List.mem_append_right _ (List.mem_of_getElem? (i := 321) (by decide +kernel))) rfl
theorem k_T_31 : Cond.methodLinkNest "NextPaths$ToldPath" (31 : Nat) ⟨"NextPaths$Graph", "secondOf", "(J)I"⟩ "NextPaths" ∈ NN := nn_mem (List.mem_append_right _ (List.mem_of_getElem? (i := 323) (by decide +kernel))) rfl
theorem ki_G_secondOf : Cond.instanceMethod ⟨"NextPaths$Graph", "secondOf", "(J)I"⟩ ∈ TT := tm (List.mem_append_right _ (List.mem_of_getElem? (i := 325) (by decide +kernel))) rfl
theorem k_G_57 : Cond.methodLinkNest "NextPaths$Graph" (57 : Nat) ⟨"NextPaths$PathCode", "lengthIn", "(J)I"⟩ "NextPaths" ∈ NN := nn_mem (List.mem_append_right _ (List.mem_of_getElem? (i := 327) (by decide +kernel))) rfl
theorem k_G_63 : Cond.methodLinkNest "NextPaths$Graph" (63 : Nat) ⟨"NextPaths$PathCode", "arcIn", "(JI)I"⟩ "NextPaths" ∈ NN := nn_mem (List.mem_append_right _ (List.mem_of_getElem? (i := 328) (by decide +kernel))) rfl
theorem ks_C_arcIn : Cond.static ⟨"NextPaths$PathCode", "arcIn", "(JI)I"⟩ ∈ TT := tm (List.mem_append_right _ (List.mem_of_getElem? (i := 329) (by decide +kernel))) rfl
theorem k_G_67 : Cond.methodLink "NextPaths$Graph" (67 : Nat) ⟨"NextPaths$Graph", "isArc", "(I)Z"⟩ ∈ TT := tm (List.mem_append_right _ (List.mem_of_getElem? (i := 331) (by decide +kernel))) rfl
theorem k_T_39 : Cond.methodLinkNest "NextPaths$ToldPath" (39 : Nat) ⟨"NextPaths$PathCode", "arcIn", "(JI)I"⟩ "NextPaths" ∈ NN := nn_mem (List.mem_append_right _ (List.mem_of_getElem? (i := 332) (by decide +kernel))) rfl
theorem k_L_41 : Cond.methodLink "NextPathsLaw" (41 : Nat) ⟨"NextPaths", "count", "(II)I"⟩ ∈ TT := tm (List.mem_append_right _ (List.mem_of_getElem? (i := 333) (by decide +kernel))) rfl
theorem ki_N_count : Cond.instanceMethod ⟨"NextPaths", "count", "(II)I"⟩ ∈ TT := tm (List.mem_append_right _ (List.mem_of_getElem? (i := 334) (by decide +kernel))) rfl
theorem kx_N_count : Cond.selects "NextPaths" ⟨"NextPaths", "count", "(II)I"⟩ ⟨"NextPaths", "count", "(II)I"⟩ ∈ TT := tm (List.mem_append_right _ (List.mem_of_getElem? (i := 335) (by decide +kernel))) rfl
theorem k_L_46 : Cond.methodLink "NextPathsLaw" (46 : Nat) ⟨"NextPaths", "apart", "(IIII)I"⟩ ∈ TT := tm (List.mem_append_right _ (List.mem_of_getElem? (i := 337) (by decide +kernel))) rfl
theorem ki_N_apart : Cond.instanceMethod ⟨"NextPaths", "apart", "(IIII)I"⟩ ∈ TT := tm (List.mem_append_right _ (List.mem_of_getElem? (i := 338) (by decide +kernel))) rfl
theorem kx_N_apart : Cond.selects "NextPaths" ⟨"NextPaths", "apart", "(IIII)I"⟩ ⟨"NextPaths", "apart", "(IIII)I"⟩ ∈ TT := tm (List.mem_append_right _ (List.mem_of_getElem? (i := 339) (by decide +kernel))) rfl
theorem k_N_113 : Cond.methodLinkNest "NextPaths" (113 : Nat) ⟨"NextPaths$Flow", "prepare", "(IIZ)V"⟩ "NextPaths" ∈ NN := nn_mem (List.mem_append_right _ (List.mem_of_getElem? (i := 341) (by decide +kernel))) rfl
theorem ki_F_prepare : Cond.instanceMethod ⟨"NextPaths$Flow", "prepare", "(IIZ)V"⟩ ∈ TT := tm (List.mem_append_right _ (List.mem_of_getElem? (i := 343) (by decide +kernel))) rfl
theorem k_F_38 : Cond.methodLink "NextPaths$Flow" (38 : Nat) ⟨"NextPaths$Flow", "exit", "(I)I"⟩ ∈ TT := tm (List.mem_append_right _ (List.mem_of_getElem? (i := 345) (by decide +kernel))) rfl
theorem ks_F_exit : Cond.static ⟨"NextPaths$Flow", "exit", "(I)I"⟩ ∈ TT := tm (List.mem_append_right _ (List.mem_of_getElem? (i := 346) (by decide +kernel))) rfl
theorem k_F_45 : Cond.methodLink "NextPaths$Flow" (45 : Nat) ⟨"NextPaths$Flow", "entry", "(I)I"⟩ ∈ TT := tm (List.mem_append_right _ (List.mem_of_getElem? (i := 348) (by decide +kernel))) rfl
theorem ks_F_entry : Cond.static ⟨"NextPaths$Flow", "entry", "(I)I"⟩ ∈ TT := tm (List.mem_append_right _ (List.mem_of_getElem? (i := 349) (by decide +kernel))) rfl
theorem k_F_69 : Cond.methodLink "NextPaths$Flow" (69 : Nat) ⟨"NextPaths$Flow", "addEdge", "(IIII)V"⟩ ∈ TT := tm (List.mem_append_right _ (List.mem_of_getElem? (i := 351) (by decide +kernel))) rfl
theorem ki_F_addEdge : Cond.instanceMethod ⟨"NextPaths$Flow", "addEdge", "(IIII)V"⟩ ∈ TT := tm (List.mem_append_right _ (List.mem_of_getElem? (i := 353) (by decide +kernel))) rfl
theorem k_F_76 : Cond.methodLink "NextPaths$Flow" (76 : Nat) ⟨"NextPaths$Flow", "setEdge", "(IIIII)V"⟩ ∈ TT := tm (List.mem_append_right _ (List.mem_of_getElem? (i := 355) (by decide +kernel))) rfl
theorem ki_F_setEdge : Cond.instanceMethod ⟨"NextPaths$Flow", "setEdge", "(IIIII)V"⟩ ∈ TT := tm (List.mem_append_right _ (List.mem_of_getElem? (i := 357) (by decide +kernel))) rfl
theorem k_N_117 : Cond.methodLinkNest "NextPaths" (117 : Nat) ⟨"NextPaths$Flow", "addPath", "()I"⟩ "NextPaths" ∈ NN := nn_mem (List.mem_append_right _ (List.mem_of_getElem? (i := 359) (by decide +kernel))) rfl
theorem ki_F_addPath : Cond.instanceMethod ⟨"NextPaths$Flow", "addPath", "()I"⟩ ∈ TT := tm (List.mem_append_right _ (List.mem_of_getElem? (i := 361) (by decide +kernel))) rfl
theorem k_F_80 : Cond.methodLink "NextPaths$Flow" (80 : Nat) ⟨"NextPaths$Flow", "measure", "()V"⟩ ∈ TT := tm (List.mem_append_right _ (List.mem_of_getElem? (i := 363) (by decide +kernel))) rfl
theorem ki_F_measure : Cond.instanceMethod ⟨"NextPaths$Flow", "measure", "()V"⟩ ∈ TT := tm (List.mem_append_right _ (List.mem_of_getElem? (i := 365) (by decide +kernel))) rfl
theorem k_F_83 : Cond.constant "NextPaths$Flow" (83 : Nat) (1000000 : Int32) ∈ TT := tm (List.mem_append_right _ (List.mem_of_getElem? (i := 367) (by decide +kernel))) rfl
theorem k_F_84 : Cond.methodLink "NextPaths$Flow" (84 : Nat) ⟨"java/util/Arrays", "fill", "([II)V"⟩ ∈ TT := tm (List.mem_append_right _ (List.mem_of_getElem? (i := 368) (by decide +kernel))) rfl
theorem k_F_90 : Cond.methodLink "NextPaths$Flow" (90 : Nat) ⟨"NextPaths$Flow", "tryEdge", "(I)Z"⟩ ∈ TT := tm (List.mem_append_right _ (List.mem_of_getElem? (i := 369) (by decide +kernel))) rfl
theorem ki_F_tryEdge : Cond.instanceMethod ⟨"NextPaths$Flow", "tryEdge", "(I)Z"⟩ ∈ TT := tm (List.mem_append_right _ (List.mem_of_getElem? (i := 371) (by decide +kernel))) rfl
theorem k_L_50 : Cond.methodLink "NextPathsLaw" (50 : Nat) ⟨"NextPaths", "most", "(III)I"⟩ ∈ TT := tm (List.mem_append_right _ (List.mem_of_getElem? (i := 373) (by decide +kernel))) rfl
theorem ki_N_most : Cond.instanceMethod ⟨"NextPaths", "most", "(III)I"⟩ ∈ TT := tm (List.mem_append_right _ (List.mem_of_getElem? (i := 374) (by decide +kernel))) rfl
theorem kx_N_most : Cond.selects "NextPaths" ⟨"NextPaths", "most", "(III)I"⟩ ⟨"NextPaths", "most", "(III)I"⟩ ∈ TT := tm (List.mem_append_right _ (List.mem_of_getElem? (i := 375) (by decide +kernel))) rfl
theorem k_L_54 : Cond.methodLink "NextPathsLaw" (54 : Nat) ⟨"NextPaths", "within", "(III)I"⟩ ∈ TT := tm (List.mem_append_right _ (List.mem_of_getElem? (i := 377) (by decide +kernel))) rfl
theorem ki_N_within : Cond.instanceMethod ⟨"NextPaths", "within", "(III)I"⟩ ∈ TT := tm (List.mem_append_right _ (List.mem_of_getElem? (i := 378) (by decide +kernel))) rfl
theorem kx_N_within : Cond.selects "NextPaths" ⟨"NextPaths", "within", "(III)I"⟩ ⟨"NextPaths", "within", "(III)I"⟩ ∈ TT := tm (List.mem_append_right _ (List.mem_of_getElem? (i := 379) (by decide +kernel))) rfl
theorem k_N_120 : Cond.methodLinkNest "NextPaths" (120 : Nat) ⟨"NextPaths$Graph", "secondOf", "(J)I"⟩ "NextPaths" ∈ NN := nn_mem (List.mem_append_right _ (List.mem_of_getElem? (i := 381) (by decide +kernel))) rfl
theorem k_L_58 : Cond.methodLink "NextPathsLaw" (58 : Nat) ⟨"NextPaths", "pairs", "(II)I"⟩ ∈ TT := tm (List.mem_append_right _ (List.mem_of_getElem? (i := 382) (by decide +kernel))) rfl
theorem ki_N_pairs : Cond.instanceMethod ⟨"NextPaths", "pairs", "(II)I"⟩ ∈ TT := tm (List.mem_append_right _ (List.mem_of_getElem? (i := 383) (by decide +kernel))) rfl
theorem kx_N_pairs : Cond.selects "NextPaths" ⟨"NextPaths", "pairs", "(II)I"⟩ ⟨"NextPaths", "pairs", "(II)I"⟩ ∈ TT := tm (List.mem_append_right _ (List.mem_of_getElem? (i := 384) (by decide +kernel))) rfl
theorem k_N_124 : Cond.methodLinkNest "NextPaths" (124 : Nat) ⟨"NextPaths$PathCode", "weightIn", "(J)I"⟩ "NextPaths" ∈ NN := nn_mem (List.mem_append_right _ (List.mem_of_getElem? (i := 386) (by decide +kernel))) rfl
theorem k_N_129 : Cond.methodLinkNest "NextPaths" (129 : Nat) ⟨"NextPaths$BestPairs", "offer", "(II)V"⟩ "NextPaths" ∈ NN := nn_mem (List.mem_append_right _ (List.mem_of_getElem? (i := 387) (by decide +kernel))) rfl
theorem ki_B_offer : Cond.instanceMethod ⟨"NextPaths$BestPairs", "offer", "(II)V"⟩ ∈ TT := tm (List.mem_append_right _ (List.mem_of_getElem? (i := 389) (by decide +kernel))) rfl
theorem k_L_62 : Cond.methodLink "NextPathsLaw" (62 : Nat) ⟨"NextPaths", "pair", "(II)I"⟩ ∈ TT := tm (List.mem_append_right _ (List.mem_of_getElem? (i := 391) (by decide +kernel))) rfl
theorem ki_N_pair : Cond.instanceMethod ⟨"NextPaths", "pair", "(II)I"⟩ ∈ TT := tm (List.mem_append_right _ (List.mem_of_getElem? (i := 392) (by decide +kernel))) rfl
theorem kx_N_pair : Cond.selects "NextPaths" ⟨"NextPaths", "pair", "(II)I"⟩ ⟨"NextPaths", "pair", "(II)I"⟩ ∈ TT := tm (List.mem_append_right _ (List.mem_of_getElem? (i := 393) (by decide +kernel))) rfl
theorem k_L_66 : Cond.methodLink "NextPathsLaw" (66 : Nat) ⟨"NextPaths", "step", "(I)I"⟩ ∈ TT := tm (List.mem_append_right _ (List.mem_of_getElem? (i := 395) (by decide +kernel))) rfl
theorem ki_N_step : Cond.instanceMethod ⟨"NextPaths", "step", "(I)I"⟩ ∈ TT := tm (List.mem_append_right _ (List.mem_of_getElem? (i := 396) (by decide +kernel))) rfl
theorem kx_N_step : Cond.selects "NextPaths" ⟨"NextPaths", "step", "(I)I"⟩ ⟨"NextPaths", "step", "(I)I"⟩ ∈ TT := tm (List.mem_append_right _ (List.mem_of_getElem? (i := 397) (by decide +kernel))) rfl
theorem k_L_71 : Cond.methodLink "NextPathsLaw" (71 : Nat) ⟨"NextPaths", "sum", "(I)I"⟩ ∈ TT := tm (List.mem_append_right _ (List.mem_of_getElem? (i := 399) (by decide +kernel))) rfl
theorem ki_N_sum : Cond.instanceMethod ⟨"NextPaths", "sum", "(I)I"⟩ ∈ TT := tm (List.mem_append_right _ (List.mem_of_getElem? (i := 400) (by decide +kernel))) rfl
theorem kx_N_sum : Cond.selects "NextPaths" ⟨"NextPaths", "sum", "(I)I"⟩ ⟨"NextPaths", "sum", "(I)I"⟩ ∈ TT := tm (List.mem_append_right _ (List.mem_of_getElem? (i := 401) (by decide +kernel))) rfl
theorem k_L_75 : Cond.methodLink "NextPathsLaw" (75 : Nat) ⟨"NextPaths", "told", "(II)I"⟩ ∈ TT := tm (List.mem_append_right _ (List.mem_of_getElem? (i := 403) (by decide +kernel))) rfl
theorem ki_N_told : Cond.instanceMethod ⟨"NextPaths", "told", "(II)I"⟩ ∈ TT := tm (List.mem_append_right _ (List.mem_of_getElem? (i := 404) (by decide +kernel))) rfl
theorem kx_N_told : Cond.selects "NextPaths" ⟨"NextPaths", "told", "(II)I"⟩ ⟨"NextPaths", "told", "(II)I"⟩ ∈ TT := tm (List.mem_append_right _ (List.mem_of_getElem? (i := 405) (by decide +kernel))) rfl
theorem k_L_79 : Cond.methodLink "NextPathsLaw" (79 : Nat) ⟨"NextPaths", "of", "(I)I"⟩ ∈ TT := tm (List.mem_append_right _ (List.mem_of_getElem? (i := 407) (by decide +kernel))) rfl
theorem ki_N_of : Cond.instanceMethod ⟨"NextPaths", "of", "(I)I"⟩ ∈ TT := tm (List.mem_append_right _ (List.mem_of_getElem? (i := 408) (by decide +kernel))) rfl
theorem kx_N_of : Cond.selects "NextPaths" ⟨"NextPaths", "of", "(I)I"⟩ ⟨"NextPaths", "of", "(I)I"⟩ ∈ TT := tm (List.mem_append_right _ (List.mem_of_getElem? (i := 409) (by decide +kernel))) rfl
theorem k_N_158 : Cond.methodLinkNest "NextPaths" (158 : Nat) ⟨"NextPaths$Graph", "shutArcs", "()I"⟩ "NextPaths" ∈ NN := nn_mem (List.mem_append_right _ (List.mem_of_getElem? (i := 411) (by decide +kernel))) rfl
theorem ki_G_shutArcs : Cond.instanceMethod ⟨"NextPaths$Graph", "shutArcs", "()I"⟩ ∈ TT := tm (List.mem_append_right _ (List.mem_of_getElem? (i := 413) (by decide +kernel))) rfl
theorem k_L_10 : Cond.classLink "NextPathsLaw" (10 : Nat) "NextPathsModel" ∈ TT := tm (List.mem_append_right _ (List.mem_of_getElem? (i := 415) (by decide +kernel))) rfl
theorem kz_M : Cond.instantiable "NextPathsModel" (28 : Nat) ∈ TT := tm (List.mem_append_right _ (List.mem_of_getElem? (i := 416) (by decide +kernel))) rfl
theorem k_L_12 : Cond.methodLink "NextPathsLaw" (12 : Nat) ⟨"NextPathsModel", "<init>", "()V"⟩ ∈ TT := tm (List.mem_append_right _ (List.mem_of_getElem? (i := 417) (by decide +kernel))) rfl
theorem ki_M_init : Cond.instanceMethod ⟨"NextPathsModel", "<init>", "()V"⟩ ∈ TT := tm (List.mem_append_right _ (List.mem_of_getElem? (i := 418) (by decide +kernel))) rfl
theorem k_M_1 : Cond.methodLink "NextPathsModel" (1 : Nat) ⟨"java/lang/Object", "<init>", "()V"⟩ ∈ TT := tm (List.mem_append_right _ (List.mem_of_getElem? (i := 420) (by decide +kernel))) rfl
theorem k_M_69 : Cond.fieldLink "NextPathsModel" (69 : Nat) "NextPathsModel" "nodes" "I" ∈ TT := tm (List.mem_append_right _ (List.mem_of_getElem? (i := 421) (by decide +kernel))) rfl
theorem k_M_73 : Cond.fieldLink "NextPathsModel" (73 : Nat) "NextPathsModel" "arcs" "I" ∈ TT := tm (List.mem_append_right _ (List.mem_of_getElem? (i := 422) (by decide +kernel))) rfl
theorem k_M_7 : Cond.fieldLink "NextPathsModel" (7 : Nat) "NextPathsModel" "from" "[I" ∈ TT := tm (List.mem_append_right _ (List.mem_of_getElem? (i := 423) (by decide +kernel))) rfl
theorem k_M_13 : Cond.fieldLink "NextPathsModel" (13 : Nat) "NextPathsModel" "to" "[I" ∈ TT := tm (List.mem_append_right _ (List.mem_of_getElem? (i := 424) (by decide +kernel))) rfl
theorem k_M_16 : Cond.fieldLink "NextPathsModel" (16 : Nat) "NextPathsModel" "weight" "[I" ∈ TT := tm (List.mem_append_right _ (List.mem_of_getElem? (i := 425) (by decide +kernel))) rfl
theorem k_M_19 : Cond.fieldLink "NextPathsModel" (19 : Nat) "NextPathsModel" "second" "[I" ∈ TT := tm (List.mem_append_right _ (List.mem_of_getElem? (i := 426) (by decide +kernel))) rfl
theorem k_M_22 : Cond.fieldLink "NextPathsModel" (22 : Nat) "NextPathsModel" "isShut" "[Z" ∈ TT := tm (List.mem_append_right _ (List.mem_of_getElem? (i := 427) (by decide +kernel))) rfl
theorem k_M_98 : Cond.fieldLink "NextPathsModel" (98 : Nat) "NextPathsModel" "paths" "I" ∈ TT := tm (List.mem_append_right _ (List.mem_of_getElem? (i := 428) (by decide +kernel))) rfl
theorem k_M_26 : Cond.fieldLink "NextPathsModel" (26 : Nat) "NextPathsModel" "weights" "[I" ∈ TT := tm (List.mem_append_right _ (List.mem_of_getElem? (i := 429) (by decide +kernel))) rfl
theorem k_M_29 : Cond.fieldLink "NextPathsModel" (29 : Nat) "NextPathsModel" "seconds" "[I" ∈ TT := tm (List.mem_append_right _ (List.mem_of_getElem? (i := 430) (by decide +kernel))) rfl
theorem k_M_32 : Cond.fieldLink "NextPathsModel" (32 : Nat) "NextPathsModel" "rows" "[J" ∈ TT := tm (List.mem_append_right _ (List.mem_of_getElem? (i := 431) (by decide +kernel))) rfl
theorem k_M_36 : Cond.fieldLink "NextPathsModel" (36 : Nat) "NextPathsModel" "lengths" "[I" ∈ TT := tm (List.mem_append_right _ (List.mem_of_getElem? (i := 432) (by decide +kernel))) rfl
theorem k_M_39 : Cond.fieldLink "NextPathsModel" (39 : Nat) "NextPathsModel" "arcSets" "[I" ∈ TT := tm (List.mem_append_right _ (List.mem_of_getElem? (i := 433) (by decide +kernel))) rfl
theorem k_M_42 : Cond.fieldLink "NextPathsModel" (42 : Nat) "NextPathsModel" "nodeSets" "[I" ∈ TT := tm (List.mem_append_right _ (List.mem_of_getElem? (i := 434) (by decide +kernel))) rfl
theorem k_M_76 : Cond.fieldLink "NextPathsModel" (76 : Nat) "NextPathsModel" "isTold" "Z" ∈ TT := tm (List.mem_append_right _ (List.mem_of_getElem? (i := 435) (by decide +kernel))) rfl
theorem k_M_109 : Cond.fieldLink "NextPathsModel" (109 : Nat) "NextPathsModel" "toldWeight" "I" ∈ TT := tm (List.mem_append_right _ (List.mem_of_getElem? (i := 436) (by decide +kernel))) rfl
theorem k_M_112 : Cond.fieldLink "NextPathsModel" (112 : Nat) "NextPathsModel" "toldSecond" "I" ∈ TT := tm (List.mem_append_right _ (List.mem_of_getElem? (i := 437) (by decide +kernel))) rfl
theorem k_M_115 : Cond.fieldLink "NextPathsModel" (115 : Nat) "NextPathsModel" "toldLength" "I" ∈ TT := tm (List.mem_append_right _ (List.mem_of_getElem? (i := 438) (by decide +kernel))) rfl
theorem k_M_118 : Cond.fieldLink "NextPathsModel" (118 : Nat) "NextPathsModel" "toldRow" "J" ∈ TT := tm (List.mem_append_right _ (List.mem_of_getElem? (i := 439) (by decide +kernel))) rfl
theorem k_M_80 : Cond.fieldLink "NextPathsModel" (80 : Nat) "NextPathsModel" "found" "I" ∈ TT := tm (List.mem_append_right _ (List.mem_of_getElem? (i := 440) (by decide +kernel))) rfl
theorem k_M_45 : Cond.fieldLink "NextPathsModel" (45 : Nat) "NextPathsModel" "foundWeight" "[I" ∈ TT := tm (List.mem_append_right _ (List.mem_of_getElem? (i := 441) (by decide +kernel))) rfl
theorem k_M_48 : Cond.fieldLink "NextPathsModel" (48 : Nat) "NextPathsModel" "foundSecond" "[I" ∈ TT := tm (List.mem_append_right _ (List.mem_of_getElem? (i := 442) (by decide +kernel))) rfl
theorem k_M_51 : Cond.fieldLink "NextPathsModel" (51 : Nat) "NextPathsModel" "tried" "[I" ∈ TT := tm (List.mem_append_right _ (List.mem_of_getElem? (i := 443) (by decide +kernel))) rfl
theorem k_M_54 : Cond.fieldLink "NextPathsModel" (54 : Nat) "NextPathsModel" "stands" "[I" ∈ TT := tm (List.mem_append_right _ (List.mem_of_getElem? (i := 444) (by decide +kernel))) rfl
theorem k_M_57 : Cond.fieldLink "NextPathsModel" (57 : Nat) "NextPathsModel" "chosen" "[I" ∈ TT := tm (List.mem_append_right _ (List.mem_of_getElem? (i := 445) (by decide +kernel))) rfl
theorem k_M_60 : Cond.fieldLink "NextPathsModel" (60 : Nat) "NextPathsModel" "sums" "[I" ∈ TT := tm (List.mem_append_right _ (List.mem_of_getElem? (i := 446) (by decide +kernel))) rfl
theorem k_M_63 : Cond.fieldLink "NextPathsModel" (63 : Nat) "NextPathsModel" "usedArcs" "[I" ∈ TT := tm (List.mem_append_right _ (List.mem_of_getElem? (i := 447) (by decide +kernel))) rfl
theorem k_M_66 : Cond.fieldLink "NextPathsModel" (66 : Nat) "NextPathsModel" "usedNodes" "[I" ∈ TT := tm (List.mem_append_right _ (List.mem_of_getElem? (i := 448) (by decide +kernel))) rfl
theorem k_L_17 : Cond.methodLink "NextPathsLaw" (17 : Nat) ⟨"NextPathsModel", "clear", "()I"⟩ ∈ TT := tm (List.mem_append_right _ (List.mem_of_getElem? (i := 506) (by decide +kernel))) rfl
theorem ki_M_clear : Cond.instanceMethod ⟨"NextPathsModel", "clear", "()I"⟩ ∈ TT := tm (List.mem_append_right _ (List.mem_of_getElem? (i := 507) (by decide +kernel))) rfl
theorem kx_M_clear : Cond.selects "NextPathsModel" ⟨"NextPathsModel", "clear", "()I"⟩ ⟨"NextPathsModel", "clear", "()I"⟩ ∈ TT := tm (List.mem_append_right _ (List.mem_of_getElem? (i := 508) (by decide +kernel))) rfl
theorem k_L_21 : Cond.methodLink "NextPathsLaw" (21 : Nat) ⟨"NextPathsModel", "node", "()I"⟩ ∈ TT := tm (List.mem_append_right _ (List.mem_of_getElem? (i := 510) (by decide +kernel))) rfl
theorem ki_M_node : Cond.instanceMethod ⟨"NextPathsModel", "node", "()I"⟩ ∈ TT := tm (List.mem_append_right _ (List.mem_of_getElem? (i := 511) (by decide +kernel))) rfl
theorem kx_M_node : Cond.selects "NextPathsModel" ⟨"NextPathsModel", "node", "()I"⟩ ⟨"NextPathsModel", "node", "()I"⟩ ∈ TT := tm (List.mem_append_right _ (List.mem_of_getElem? (i := 512) (by decide +kernel))) rfl
theorem k_L_26 : Cond.methodLink "NextPathsLaw" (26 : Nat) ⟨"NextPathsModel", "arc", "(IIII)I"⟩ ∈ TT := tm (List.mem_append_right _ (List.mem_of_getElem? (i := 514) (by decide +kernel))) rfl
theorem ki_M_arc : Cond.instanceMethod ⟨"NextPathsModel", "arc", "(IIII)I"⟩ ∈ TT := tm (List.mem_append_right _ (List.mem_of_getElem? (i := 515) (by decide +kernel))) rfl
theorem kx_M_arc : Cond.selects "NextPathsModel" ⟨"NextPathsModel", "arc", "(IIII)I"⟩ ⟨"NextPathsModel", "arc", "(IIII)I"⟩ ∈ TT := tm (List.mem_append_right _ (List.mem_of_getElem? (i := 516) (by decide +kernel))) rfl
theorem k_M_91 : Cond.methodLink "NextPathsModel" (91 : Nat) ⟨"NextPathsModel", "areTwo", "(II)Z"⟩ ∈ TT := tm (List.mem_append_right _ (List.mem_of_getElem? (i := 518) (by decide +kernel))) rfl
theorem ki_M_areTwo : Cond.instanceMethod ⟨"NextPathsModel", "areTwo", "(II)Z"⟩ ∈ TT := tm (List.mem_append_right _ (List.mem_of_getElem? (i := 520) (by decide +kernel))) rfl
theorem k_M_87 : Cond.methodLink "NextPathsModel" (87 : Nat) ⟨"NextPathsModel", "isNode", "(I)Z"⟩ ∈ TT := tm (List.mem_append_right _ (List.mem_of_getElem? (i := 522) (by decide +kernel))) rfl
theorem ki_M_isNode : Cond.instanceMethod ⟨"NextPathsModel", "isNode", "(I)Z"⟩ ∈ TT := tm (List.mem_append_right _ (List.mem_of_getElem? (i := 524) (by decide +kernel))) rfl
theorem k_M_83 : Cond.methodLink "NextPathsModel" (83 : Nat) ⟨"NextPathsModel", "isIn", "(III)Z"⟩ ∈ TT := tm (List.mem_append_right _ (List.mem_of_getElem? (i := 526) (by decide +kernel))) rfl
theorem ks_M_isIn : Cond.static ⟨"NextPathsModel", "isIn", "(III)Z"⟩ ∈ TT := tm (List.mem_append_right _ (List.mem_of_getElem? (i := 527) (by decide +kernel))) rfl
theorem k_L_31 : Cond.methodLink "NextPathsLaw" (31 : Nat) ⟨"NextPathsModel", "change", "(III)I"⟩ ∈ TT := tm (List.mem_append_right _ (List.mem_of_getElem? (i := 529) (by decide +kernel))) rfl
theorem ki_M_change : Cond.instanceMethod ⟨"NextPathsModel", "change", "(III)I"⟩ ∈ TT := tm (List.mem_append_right _ (List.mem_of_getElem? (i := 530) (by decide +kernel))) rfl
theorem kx_M_change : Cond.selects "NextPathsModel" ⟨"NextPathsModel", "change", "(III)I"⟩ ⟨"NextPathsModel", "change", "(III)I"⟩ ∈ TT := tm (List.mem_append_right _ (List.mem_of_getElem? (i := 531) (by decide +kernel))) rfl
theorem k_M_95 : Cond.methodLink "NextPathsModel" (95 : Nat) ⟨"NextPathsModel", "isArc", "(I)Z"⟩ ∈ TT := tm (List.mem_append_right _ (List.mem_of_getElem? (i := 533) (by decide +kernel))) rfl
theorem ki_M_isArc : Cond.instanceMethod ⟨"NextPathsModel", "isArc", "(I)Z"⟩ ∈ TT := tm (List.mem_append_right _ (List.mem_of_getElem? (i := 535) (by decide +kernel))) rfl
theorem k_L_36 : Cond.methodLink "NextPathsLaw" (36 : Nat) ⟨"NextPathsModel", "shut", "(IZ)I"⟩ ∈ TT := tm (List.mem_append_right _ (List.mem_of_getElem? (i := 537) (by decide +kernel))) rfl
theorem ki_M_shut : Cond.instanceMethod ⟨"NextPathsModel", "shut", "(IZ)I"⟩ ∈ TT := tm (List.mem_append_right _ (List.mem_of_getElem? (i := 538) (by decide +kernel))) rfl
theorem kx_M_shut : Cond.selects "NextPathsModel" ⟨"NextPathsModel", "shut", "(IZ)I"⟩ ⟨"NextPathsModel", "shut", "(IZ)I"⟩ ∈ TT := tm (List.mem_append_right _ (List.mem_of_getElem? (i := 539) (by decide +kernel))) rfl
theorem k_L_40 : Cond.methodLink "NextPathsLaw" (40 : Nat) ⟨"NextPathsModel", "next", "(III)I"⟩ ∈ TT := tm (List.mem_append_right _ (List.mem_of_getElem? (i := 541) (by decide +kernel))) rfl
theorem ki_M_next : Cond.instanceMethod ⟨"NextPathsModel", "next", "(III)I"⟩ ∈ TT := tm (List.mem_append_right _ (List.mem_of_getElem? (i := 542) (by decide +kernel))) rfl
theorem kx_M_next : Cond.selects "NextPathsModel" ⟨"NextPathsModel", "next", "(III)I"⟩ ⟨"NextPathsModel", "next", "(III)I"⟩ ∈ TT := tm (List.mem_append_right _ (List.mem_of_getElem? (i := 543) (by decide +kernel))) rfl
theorem k_M_122 : Cond.methodLink "NextPathsModel" (122 : Nat) ⟨"NextPathsModel", "find", "(II)V"⟩ ∈ TT := tm (List.mem_append_right _ (List.mem_of_getElem? (i := 545) (by decide +kernel))) rfl
theorem ki_M_find : Cond.instanceMethod ⟨"NextPathsModel", "find", "(II)V"⟩ ∈ TT := tm (List.mem_append_right _ (List.mem_of_getElem? (i := 547) (by decide +kernel))) rfl
theorem k_M_101 : Cond.methodLink "NextPathsModel" (101 : Nat) ⟨"NextPathsModel", "keep", "(I)V"⟩ ∈ TT := tm (List.mem_append_right _ (List.mem_of_getElem? (i := 549) (by decide +kernel))) rfl
theorem ki_M_keep : Cond.instanceMethod ⟨"NextPathsModel", "keep", "(I)V"⟩ ∈ TT := tm (List.mem_append_right _ (List.mem_of_getElem? (i := 551) (by decide +kernel))) rfl
theorem k_M_105 : Cond.methodLink "NextPathsModel" (105 : Nat) ⟨"NextPathsModel", "isAhead", "(IIJI)Z"⟩ ∈ TT := tm (List.mem_append_right _ (List.mem_of_getElem? (i := 553) (by decide +kernel))) rfl
theorem ki_M_isAhead : Cond.instanceMethod ⟨"NextPathsModel", "isAhead", "(IIJI)Z"⟩ ∈ TT := tm (List.mem_append_right _ (List.mem_of_getElem? (i := 555) (by decide +kernel))) rfl
theorem k_M_126 : Cond.methodLink "NextPathsModel" (126 : Nat) ⟨"NextPathsModel", "tell", "(I)I"⟩ ∈ TT := tm (List.mem_append_right _ (List.mem_of_getElem? (i := 557) (by decide +kernel))) rfl
theorem ki_M_tell : Cond.instanceMethod ⟨"NextPathsModel", "tell", "(I)I"⟩ ∈ TT := tm (List.mem_append_right _ (List.mem_of_getElem? (i := 559) (by decide +kernel))) rfl
theorem k_L_45 : Cond.methodLink "NextPathsLaw" (45 : Nat) ⟨"NextPathsModel", "count", "(II)I"⟩ ∈ TT := tm (List.mem_append_right _ (List.mem_of_getElem? (i := 561) (by decide +kernel))) rfl
theorem ki_M_count : Cond.instanceMethod ⟨"NextPathsModel", "count", "(II)I"⟩ ∈ TT := tm (List.mem_append_right _ (List.mem_of_getElem? (i := 562) (by decide +kernel))) rfl
theorem kx_M_count : Cond.selects "NextPathsModel" ⟨"NextPathsModel", "count", "(II)I"⟩ ⟨"NextPathsModel", "count", "(II)I"⟩ ∈ TT := tm (List.mem_append_right _ (List.mem_of_getElem? (i := 563) (by decide +kernel))) rfl
theorem k_L_49 : Cond.methodLink "NextPathsLaw" (49 : Nat) ⟨"NextPathsModel", "apart", "(IIII)I"⟩ ∈ TT := tm (List.mem_append_right _ (List.mem_of_getElem? (i := 565) (by decide +kernel))) rfl
theorem ki_M_apart : Cond.instanceMethod ⟨"NextPathsModel", "apart", "(IIII)I"⟩ ∈ TT := tm (List.mem_append_right _ (List.mem_of_getElem? (i := 566) (by decide +kernel))) rfl
theorem kx_M_apart : Cond.selects "NextPathsModel" ⟨"NextPathsModel", "apart", "(IIII)I"⟩ ⟨"NextPathsModel", "apart", "(IIII)I"⟩ ∈ TT := tm (List.mem_append_right _ (List.mem_of_getElem? (i := 567) (by decide +kernel))) rfl
theorem k_M_130 : Cond.methodLink "NextPathsModel" (130 : Nat) ⟨"NextPathsModel", "most", "(III)I"⟩ ∈ TT := tm (List.mem_append_right _ (List.mem_of_getElem? (i := 569) (by decide +kernel))) rfl
theorem ki_M_most : Cond.instanceMethod ⟨"NextPathsModel", "most", "(III)I"⟩ ∈ TT := tm (List.mem_append_right _ (List.mem_of_getElem? (i := 570) (by decide +kernel))) rfl
theorem kx_M_most : Cond.selects "NextPathsModel" ⟨"NextPathsModel", "most", "(III)I"⟩ ⟨"NextPathsModel", "most", "(III)I"⟩ ∈ TT := tm (List.mem_append_right _ (List.mem_of_getElem? (i := 571) (by decide +kernel))) rfl
theorem k_M_134 : Cond.methodLink "NextPathsModel" (134 : Nat) ⟨"NextPathsModel", "out", "(I)I"⟩ ∈ TT := tm (List.mem_append_right _ (List.mem_of_getElem? (i := 573) (by decide +kernel))) rfl
theorem ki_M_out : Cond.instanceMethod ⟨"NextPathsModel", "out", "(I)I"⟩ ∈ TT := tm (List.mem_append_right _ (List.mem_of_getElem? (i := 575) (by decide +kernel))) rfl
theorem k_M_137 : Cond.methodLink "NextPathsModel" (137 : Nat) ⟨"NextPathsModel", "isJoined", "(III)Z"⟩ ∈ TT := tm (List.mem_append_right _ (List.mem_of_getElem? (i := 577) (by decide +kernel))) rfl
theorem ki_M_isJoined : Cond.instanceMethod ⟨"NextPathsModel", "isJoined", "(III)Z"⟩ ∈ TT := tm (List.mem_append_right _ (List.mem_of_getElem? (i := 579) (by decide +kernel))) rfl
theorem k_M_140 : Cond.methodLink "NextPathsModel" (140 : Nat) ⟨"NextPathsModel", "many", "(I)I"⟩ ∈ TT := tm (List.mem_append_right _ (List.mem_of_getElem? (i := 581) (by decide +kernel))) rfl
theorem ks_M_many : Cond.static ⟨"NextPathsModel", "many", "(I)I"⟩ ∈ TT := tm (List.mem_append_right _ (List.mem_of_getElem? (i := 582) (by decide +kernel))) rfl
theorem k_L_53 : Cond.methodLink "NextPathsLaw" (53 : Nat) ⟨"NextPathsModel", "most", "(III)I"⟩ ∈ TT := tm (List.mem_append_right _ (List.mem_of_getElem? (i := 584) (by decide +kernel))) rfl
theorem k_L_57 : Cond.methodLink "NextPathsLaw" (57 : Nat) ⟨"NextPathsModel", "within", "(III)I"⟩ ∈ TT := tm (List.mem_append_right _ (List.mem_of_getElem? (i := 585) (by decide +kernel))) rfl
theorem ki_M_within : Cond.instanceMethod ⟨"NextPathsModel", "within", "(III)I"⟩ ∈ TT := tm (List.mem_append_right _ (List.mem_of_getElem? (i := 586) (by decide +kernel))) rfl
theorem kx_M_within : Cond.selects "NextPathsModel" ⟨"NextPathsModel", "within", "(III)I"⟩ ⟨"NextPathsModel", "within", "(III)I"⟩ ∈ TT := tm (List.mem_append_right _ (List.mem_of_getElem? (i := 587) (by decide +kernel))) rfl
theorem k_L_61 : Cond.methodLink "NextPathsLaw" (61 : Nat) ⟨"NextPathsModel", "pairs", "(II)I"⟩ ∈ TT := tm (List.mem_append_right _ (List.mem_of_getElem? (i := 589) (by decide +kernel))) rfl
theorem ki_M_pairs : Cond.instanceMethod ⟨"NextPathsModel", "pairs", "(II)I"⟩ ∈ TT := tm (List.mem_append_right _ (List.mem_of_getElem? (i := 590) (by decide +kernel))) rfl
theorem kx_M_pairs : Cond.selects "NextPathsModel" ⟨"NextPathsModel", "pairs", "(II)I"⟩ ⟨"NextPathsModel", "pairs", "(II)I"⟩ ∈ TT := tm (List.mem_append_right _ (List.mem_of_getElem? (i := 591) (by decide +kernel))) rfl
theorem k_M_143 : Cond.methodLink "NextPathsModel" (143 : Nat) ⟨"NextPathsModel", "isBettered", "(I)Z"⟩ ∈ TT := tm (List.mem_append_right _ (List.mem_of_getElem? (i := 593) (by decide +kernel))) rfl
theorem ki_M_isBettered : Cond.instanceMethod ⟨"NextPathsModel", "isBettered", "(I)Z"⟩ ∈ TT := tm (List.mem_append_right _ (List.mem_of_getElem? (i := 595) (by decide +kernel))) rfl
theorem k_L_65 : Cond.methodLink "NextPathsLaw" (65 : Nat) ⟨"NextPathsModel", "pair", "(II)I"⟩ ∈ TT := tm (List.mem_append_right _ (List.mem_of_getElem? (i := 597) (by decide +kernel))) rfl
theorem ki_M_pair : Cond.instanceMethod ⟨"NextPathsModel", "pair", "(II)I"⟩ ∈ TT := tm (List.mem_append_right _ (List.mem_of_getElem? (i := 598) (by decide +kernel))) rfl
theorem kx_M_pair : Cond.selects "NextPathsModel" ⟨"NextPathsModel", "pair", "(II)I"⟩ ⟨"NextPathsModel", "pair", "(II)I"⟩ ∈ TT := tm (List.mem_append_right _ (List.mem_of_getElem? (i := 599) (by decide +kernel))) rfl
theorem k_L_70 : Cond.methodLink "NextPathsLaw" (70 : Nat) ⟨"NextPathsModel", "step", "(I)I"⟩ ∈ TT := tm (List.mem_append_right _ (List.mem_of_getElem? (i := 601) (by decide +kernel))) rfl
theorem ki_M_step : Cond.instanceMethod ⟨"NextPathsModel", "step", "(I)I"⟩ ∈ TT := tm (List.mem_append_right _ (List.mem_of_getElem? (i := 602) (by decide +kernel))) rfl
theorem kx_M_step : Cond.selects "NextPathsModel" ⟨"NextPathsModel", "step", "(I)I"⟩ ⟨"NextPathsModel", "step", "(I)I"⟩ ∈ TT := tm (List.mem_append_right _ (List.mem_of_getElem? (i := 603) (by decide +kernel))) rfl
theorem k_M_146 : Cond.constantLong "NextPathsModel" (146 : Nat) (31 : Int64) ∈ TT := tm (List.mem_append_right _ (List.mem_of_getElem? (i := 605) (by decide +kernel))) rfl
theorem k_L_74 : Cond.methodLink "NextPathsLaw" (74 : Nat) ⟨"NextPathsModel", "sum", "(I)I"⟩ ∈ TT := tm (List.mem_append_right _ (List.mem_of_getElem? (i := 606) (by decide +kernel))) rfl
theorem ki_M_sum : Cond.instanceMethod ⟨"NextPathsModel", "sum", "(I)I"⟩ ∈ TT := tm (List.mem_append_right _ (List.mem_of_getElem? (i := 607) (by decide +kernel))) rfl
theorem kx_M_sum : Cond.selects "NextPathsModel" ⟨"NextPathsModel", "sum", "(I)I"⟩ ⟨"NextPathsModel", "sum", "(I)I"⟩ ∈ TT := tm (List.mem_append_right _ (List.mem_of_getElem? (i := 608) (by decide +kernel))) rfl
theorem k_L_78 : Cond.methodLink "NextPathsLaw" (78 : Nat) ⟨"NextPathsModel", "told", "(II)I"⟩ ∈ TT := tm (List.mem_append_right _ (List.mem_of_getElem? (i := 610) (by decide +kernel))) rfl
theorem ki_M_told : Cond.instanceMethod ⟨"NextPathsModel", "told", "(II)I"⟩ ∈ TT := tm (List.mem_append_right _ (List.mem_of_getElem? (i := 611) (by decide +kernel))) rfl
theorem kx_M_told : Cond.selects "NextPathsModel" ⟨"NextPathsModel", "told", "(II)I"⟩ ⟨"NextPathsModel", "told", "(II)I"⟩ ∈ TT := tm (List.mem_append_right _ (List.mem_of_getElem? (i := 612) (by decide +kernel))) rfl
theorem k_L_82 : Cond.methodLink "NextPathsLaw" (82 : Nat) ⟨"NextPathsModel", "of", "(I)I"⟩ ∈ TT := tm (List.mem_append_right _ (List.mem_of_getElem? (i := 614) (by decide +kernel))) rfl
theorem ki_M_of : Cond.instanceMethod ⟨"NextPathsModel", "of", "(I)I"⟩ ∈ TT := tm (List.mem_append_right _ (List.mem_of_getElem? (i := 615) (by decide +kernel))) rfl
theorem kx_M_of : Cond.selects "NextPathsModel" ⟨"NextPathsModel", "of", "(I)I"⟩ ⟨"NextPathsModel", "of", "(I)I"⟩ ∈ TT := tm (List.mem_append_right _ (List.mem_of_getElem? (i := 616) (by decide +kernel))) rfl
theorem kx_M_isNode : Cond.selects "NextPathsModel" y_M_isNode y_M_isNode ∈ TT := tm (List.mem_append_left _ (List.mem_of_getElem? (i := 25) (by decide +kernel))) rfl
theorem kx_M_isArc : Cond.selects "NextPathsModel" y_M_isArc y_M_isArc ∈ TT := tm (List.mem_append_left _ (List.mem_of_getElem? (i := 26) (by decide +kernel))) rfl
theorem kx_M_areTwo : Cond.selects "NextPathsModel" y_M_areTwo y_M_areTwo ∈ TT := tm (List.mem_append_left _ (List.mem_of_getElem? (i := 24) (by decide +kernel))) rfl
theorem kx_M_find : Cond.selects "NextPathsModel" y_M_find y_M_find ∈ TT := tm (List.mem_append_left _ (List.mem_of_getElem? (i := 27) (by decide +kernel))) rfl
theorem kx_M_keep : Cond.selects "NextPathsModel" y_M_keep y_M_keep ∈ TT := tm (List.mem_append_left _ (List.mem_of_getElem? (i := 28) (by decide +kernel))) rfl
theorem kx_M_isAhead : Cond.selects "NextPathsModel" y_M_isAhead y_M_isAhead ∈ TT := tm (List.mem_append_left _ (List.mem_of_getElem? (i := 29) (by decide +kernel))) rfl
theorem kx_M_tell : Cond.selects "NextPathsModel" y_M_tell y_M_tell ∈ TT := tm (List.mem_append_left _ (List.mem_of_getElem? (i := 30) (by decide +kernel))) rfl
theorem kx_M_out : Cond.selects "NextPathsModel" y_M_out y_M_out ∈ TT := tm (List.mem_append_left _ (List.mem_of_getElem? (i := 31) (by decide +kernel))) rfl
theorem kx_M_isJoined : Cond.selects "NextPathsModel" y_M_isJoined y_M_isJoined ∈ TT := tm (List.mem_append_left _ (List.mem_of_getElem? (i := 32) (by decide +kernel))) rfl
theorem kx_M_isBettered : Cond.selects "NextPathsModel" y_M_isBettered y_M_isBettered ∈ TT := tm (List.mem_append_left _ (List.mem_of_getElem? (i := 33) (by decide +kernel))) rfl
theorem kx_B_empty : Cond.selects "NextPaths$BestPairs" y_B_empty y_B_empty ∈ TT := tm (List.mem_append_left _ (List.mem_of_getElem? (i := 2) (by decide +kernel))) rfl
theorem kx_B_offer : Cond.selects "NextPaths$BestPairs" y_B_offer y_B_offer ∈ TT := tm (List.mem_append_left _ (List.mem_of_getElem? (i := 22) (by decide +kernel))) rfl
theorem kx_F_prepare : Cond.selects "NextPaths$Flow" y_F_prepare y_F_prepare ∈ TT := tm (List.mem_append_left _ (List.mem_of_getElem? (i := 16) (by decide +kernel))) rfl
theorem kx_F_addEdge : Cond.selects "NextPaths$Flow" y_F_addEdge y_F_addEdge ∈ TT := tm (List.mem_append_left _ (List.mem_of_getElem? (i := 17) (by decide +kernel))) rfl
theorem kx_F_setEdge : Cond.selects "NextPaths$Flow" y_F_setEdge y_F_setEdge ∈ TT := tm (List.mem_append_left _ (List.mem_of_getElem? (i := 18) (by decide +kernel))) rfl
theorem kx_F_addPath : Cond.selects "NextPaths$Flow" y_F_addPath y_F_addPath ∈ TT := tm (List.mem_append_left _ (List.mem_of_getElem? (i := 19) (by decide +kernel))) rfl
theorem kx_F_measure : Cond.selects "NextPaths$Flow" y_F_measure y_F_measure ∈ TT := tm (List.mem_append_left _ (List.mem_of_getElem? (i := 20) (by decide +kernel))) rfl
theorem kx_F_tryEdge : Cond.selects "NextPaths$Flow" y_F_tryEdge y_F_tryEdge ∈ TT := tm (List.mem_append_left _ (List.mem_of_getElem? (i := 21) (by decide +kernel))) rfl
theorem kx_G_empty : Cond.selects "NextPaths$Graph" y_G_empty y_G_empty ∈ TT := tm (List.mem_append_left _ (List.mem_of_getElem? (i := 0) (by decide +kernel))) rfl
theorem kx_G_isNode : Cond.selects "NextPaths$Graph" y_G_isNode y_G_isNode ∈ TT := tm (List.mem_append_left _ (List.mem_of_getElem? (i := 5) (by decide +kernel))) rfl
theorem kx_G_areTwoNodes : Cond.selects "NextPaths$Graph" y_G_areTwoNodes y_G_areTwoNodes ∈ TT := tm (List.mem_append_left _ (List.mem_of_getElem? (i := 4) (by decide +kernel))) rfl
theorem kx_G_isArc : Cond.selects "NextPaths$Graph" y_G_isArc y_G_isArc ∈ TT := tm (List.mem_append_left _ (List.mem_of_getElem? (i := 7) (by decide +kernel))) rfl
theorem kx_G_addNode : Cond.selects "NextPaths$Graph" y_G_addNode y_G_addNode ∈ TT := tm (List.mem_append_left _ (List.mem_of_getElem? (i := 3) (by decide +kernel))) rfl
theorem kx_G_addArc : Cond.selects "NextPaths$Graph" y_G_addArc y_G_addArc ∈ TT := tm (List.mem_append_left _ (List.mem_of_getElem? (i := 6) (by decide +kernel))) rfl
theorem kx_G_shutArcs : Cond.selects "NextPaths$Graph" y_G_shutArcs y_G_shutArcs ∈ TT := tm (List.mem_append_left _ (List.mem_of_getElem? (i := 23) (by decide +kernel))) rfl
theorem kx_G_secondOf : Cond.selects "NextPaths$Graph" y_G_secondOf y_G_secondOf ∈ TT := tm (List.mem_append_left _ (List.mem_of_getElem? (i := 15) (by decide +kernel))) rfl
theorem kx_P_findAll : Cond.selects "NextPaths$PathFinder" y_P_findAll y_P_findAll ∈ TT := tm (List.mem_append_left _ (List.mem_of_getElem? (i := 8) (by decide +kernel))) rfl
theorem kx_P_code : Cond.selects "NextPaths$PathFinder" y_P_code y_P_code ∈ TT := tm (List.mem_append_left _ (List.mem_of_getElem? (i := 10) (by decide +kernel))) rfl
theorem kx_H_empty : Cond.selects "NextPaths$PathHeap" y_H_empty y_H_empty ∈ TT := tm (List.mem_append_left _ (List.mem_of_getElem? (i := 9) (by decide +kernel))) rfl
theorem kx_H_add : Cond.selects "NextPaths$PathHeap" y_H_add y_H_add ∈ TT := tm (List.mem_append_left _ (List.mem_of_getElem? (i := 11) (by decide +kernel))) rfl
theorem kx_H_takeFirst : Cond.selects "NextPaths$PathHeap" y_H_takeFirst y_H_takeFirst ∈ TT := tm (List.mem_append_left _ (List.mem_of_getElem? (i := 12) (by decide +kernel))) rfl
theorem kx_H_sinkFromTop : Cond.selects "NextPaths$PathHeap" y_H_sinkFromTop y_H_sinkFromTop ∈ TT := tm (List.mem_append_left _ (List.mem_of_getElem? (i := 13) (by decide +kernel))) rfl
theorem kx_T_empty : Cond.selects "NextPaths$ToldPath" y_T_empty y_T_empty ∈ TT := tm (List.mem_append_left _ (List.mem_of_getElem? (i := 1) (by decide +kernel))) rfl
theorem kx_T_tell : Cond.selects "NextPaths$ToldPath" y_T_tell y_T_tell ∈ TT := tm (List.mem_append_left _ (List.mem_of_getElem? (i := 14) (by decide +kernel))) rfl
