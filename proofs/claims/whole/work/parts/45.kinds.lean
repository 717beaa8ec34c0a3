/-! rooms, descriptors; calls by the kind of their answer; the rows of the grid -/
abbrev rm_N_init : Room := { frames := 2, cells := 0, slots := 0, locals := 42 }
theorem hy_N_init : y_N_init.cls ≠ "java/lang/invoke/MethodHandle" ∧ y_N_init.cls ≠ "java/lang/invoke/VarHandle" ∧ (parseMethodDescriptor y_N_init.desc).map (fun d => d.parameters.length) = some 0 := by decide +kernel
abbrev rm_N_clear : Room := { frames := 2, cells := 0, slots := 0, locals := 43 }
theorem hy_N_clear : y_N_clear.cls ≠ "java/lang/invoke/MethodHandle" ∧ y_N_clear.cls ≠ "java/lang/invoke/VarHandle" ∧ (parseMethodDescriptor y_N_clear.desc).map (fun d => d.parameters.length) = some 0 := by decide +kernel
abbrev rm_N_node : Room := { frames := 1, cells := 0, slots := 0, locals := 20 }
theorem hy_N_node : y_N_node.cls ≠ "java/lang/invoke/MethodHandle" ∧ y_N_node.cls ≠ "java/lang/invoke/VarHandle" ∧ (parseMethodDescriptor y_N_node.desc).map (fun d => d.parameters.length) = some 0 := by decide +kernel
abbrev rm_N_arc : Room := { frames := 3, cells := 0, slots := 0, locals := 65 }
theorem hy_N_arc : y_N_arc.cls ≠ "java/lang/invoke/MethodHandle" ∧ y_N_arc.cls ≠ "java/lang/invoke/VarHandle" ∧ (parseMethodDescriptor y_N_arc.desc).map (fun d => d.parameters.length) = some 4 := by decide +kernel
abbrev rm_N_change : Room := { frames := 2, cells := 0, slots := 0, locals := 43 }
theorem hy_N_change : y_N_change.cls ≠ "java/lang/invoke/MethodHandle" ∧ y_N_change.cls ≠ "java/lang/invoke/VarHandle" ∧ (parseMethodDescriptor y_N_change.desc).map (fun d => d.parameters.length) = some 3 := by decide +kernel
abbrev rm_N_shut : Room := { frames := 2, cells := 0, slots := 0, locals := 43 }
theorem hy_N_shut : y_N_shut.cls ≠ "java/lang/invoke/MethodHandle" ∧ y_N_shut.cls ≠ "java/lang/invoke/VarHandle" ∧ (parseMethodDescriptor y_N_shut.desc).map (fun d => d.parameters.length) = some 2 := by decide +kernel
abbrev rm_N_next : Room := { frames := 13, cells := 0, slots := 0, locals := 313 }
theorem hy_N_next : y_N_next.cls ≠ "java/lang/invoke/MethodHandle" ∧ y_N_next.cls ≠ "java/lang/invoke/VarHandle" ∧ (parseMethodDescriptor y_N_next.desc).map (fun d => d.parameters.length) = some 3 := by decide +kernel
abbrev rm_N_count : Room := { frames := 13, cells := 0, slots := 0, locals := 313 }
theorem hy_N_count : y_N_count.cls ≠ "java/lang/invoke/MethodHandle" ∧ y_N_count.cls ≠ "java/lang/invoke/VarHandle" ∧ (parseMethodDescriptor y_N_count.desc).map (fun d => d.parameters.length) = some 2 := by decide +kernel
abbrev rm_N_apart : Room := { frames := 3, cells := 0, slots := 0, locals := 73 }
theorem hy_N_apart : y_N_apart.cls ≠ "java/lang/invoke/MethodHandle" ∧ y_N_apart.cls ≠ "java/lang/invoke/VarHandle" ∧ (parseMethodDescriptor y_N_apart.desc).map (fun d => d.parameters.length) = some 4 := by decide +kernel
abbrev rm_N_most : Room := { frames := 3, cells := 0, slots := 0, locals := 73 }
theorem hy_N_most : y_N_most.cls ≠ "java/lang/invoke/MethodHandle" ∧ y_N_most.cls ≠ "java/lang/invoke/VarHandle" ∧ (parseMethodDescriptor y_N_most.desc).map (fun d => d.parameters.length) = some 3 := by decide +kernel
abbrev rm_N_within : Room := { frames := 13, cells := 0, slots := 0, locals := 313 }
theorem hy_N_within : y_N_within.cls ≠ "java/lang/invoke/MethodHandle" ∧ y_N_within.cls ≠ "java/lang/invoke/VarHandle" ∧ (parseMethodDescriptor y_N_within.desc).map (fun d => d.parameters.length) = some 3 := by decide +kernel
abbrev rm_N_pairs : Room := { frames := 13, cells := 0, slots := 0, locals := 313 }
theorem hy_N_pairs : y_N_pairs.cls ≠ "java/lang/invoke/MethodHandle" ∧ y_N_pairs.cls ≠ "java/lang/invoke/VarHandle" ∧ (parseMethodDescriptor y_N_pairs.desc).map (fun d => d.parameters.length) = some 2 := by decide +kernel
abbrev rm_N_pair : Room := { frames := 1, cells := 0, slots := 0, locals := 22 }
theorem hy_N_pair : y_N_pair.cls ≠ "java/lang/invoke/MethodHandle" ∧ y_N_pair.cls ≠ "java/lang/invoke/VarHandle" ∧ (parseMethodDescriptor y_N_pair.desc).map (fun d => d.parameters.length) = some 2 := by decide +kernel
abbrev rm_N_step : Room := { frames := 1, cells := 0, slots := 0, locals := 22 }
theorem hy_N_step : y_N_step.cls ≠ "java/lang/invoke/MethodHandle" ∧ y_N_step.cls ≠ "java/lang/invoke/VarHandle" ∧ (parseMethodDescriptor y_N_step.desc).map (fun d => d.parameters.length) = some 1 := by decide +kernel
abbrev rm_N_sum : Room := { frames := 1, cells := 0, slots := 0, locals := 22 }
theorem hy_N_sum : y_N_sum.cls ≠ "java/lang/invoke/MethodHandle" ∧ y_N_sum.cls ≠ "java/lang/invoke/VarHandle" ∧ (parseMethodDescriptor y_N_sum.desc).map (fun d => d.parameters.length) = some 1 := by decide +kernel
abbrev rm_N_told : Room := { frames := 2, cells := 0, slots := 0, locals := 43 }
theorem hy_N_told : y_N_told.cls ≠ "java/lang/invoke/MethodHandle" ∧ y_N_told.cls ≠ "java/lang/invoke/VarHandle" ∧ (parseMethodDescriptor y_N_told.desc).map (fun d => d.parameters.length) = some 2 := by decide +kernel
abbrev rm_N_of : Room := { frames := 1, cells := 0, slots := 0, locals := 22 }
theorem hy_N_of : y_N_of.cls ≠ "java/lang/invoke/MethodHandle" ∧ y_N_of.cls ≠ "java/lang/invoke/VarHandle" ∧ (parseMethodDescriptor y_N_of.desc).map (fun d => d.parameters.length) = some 1 := by decide +kernel
abbrev rm_N_liesIn : Room := { frames := 0, cells := 0, slots := 0, locals := 0 }
theorem hy_N_liesIn : y_N_liesIn.cls ≠ "java/lang/invoke/MethodHandle" ∧ y_N_liesIn.cls ≠ "java/lang/invoke/VarHandle" ∧ (parseMethodDescriptor y_N_liesIn.desc).map (fun d => d.parameters.length) = some 3 := by decide +kernel
abbrev rm_N_isWeight : Room := { frames := 1, cells := 0, slots := 0, locals := 22 }
theorem hy_N_isWeight : y_N_isWeight.cls ≠ "java/lang/invoke/MethodHandle" ∧ y_N_isWeight.cls ≠ "java/lang/invoke/VarHandle" ∧ (parseMethodDescriptor y_N_isWeight.desc).map (fun d => d.parameters.length) = some 1 := by decide +kernel
abbrev rm_M_init : Room := { frames := 1, cells := 0, slots := 0, locals := 20 }
theorem hy_M_init : y_M_init.cls ≠ "java/lang/invoke/MethodHandle" ∧ y_M_init.cls ≠ "java/lang/invoke/VarHandle" ∧ (parseMethodDescriptor y_M_init.desc).map (fun d => d.parameters.length) = some 0 := by decide +kernel
abbrev rm_M_clear : Room := { frames := 0, cells := 0, slots := 0, locals := 0 }
theorem hy_M_clear : y_M_clear.cls ≠ "java/lang/invoke/MethodHandle" ∧ y_M_clear.cls ≠ "java/lang/invoke/VarHandle" ∧ (parseMethodDescriptor y_M_clear.desc).map (fun d => d.parameters.length) = some 0 := by decide +kernel
abbrev rm_M_isIn : Room := { frames := 0, cells := 0, slots := 0, locals := 0 }
theorem hy_M_isIn : y_M_isIn.cls ≠ "java/lang/invoke/MethodHandle" ∧ y_M_isIn.cls ≠ "java/lang/invoke/VarHandle" ∧ (parseMethodDescriptor y_M_isIn.desc).map (fun d => d.parameters.length) = some 3 := by decide +kernel
abbrev rm_M_isNode : Room := { frames := 1, cells := 0, slots := 0, locals := 22 }
theorem hy_M_isNode : y_M_isNode.cls ≠ "java/lang/invoke/MethodHandle" ∧ y_M_isNode.cls ≠ "java/lang/invoke/VarHandle" ∧ (parseMethodDescriptor y_M_isNode.desc).map (fun d => d.parameters.length) = some 1 := by decide +kernel
abbrev rm_M_isArc : Room := { frames := 1, cells := 0, slots := 0, locals := 22 }
theorem hy_M_isArc : y_M_isArc.cls ≠ "java/lang/invoke/MethodHandle" ∧ y_M_isArc.cls ≠ "java/lang/invoke/VarHandle" ∧ (parseMethodDescriptor y_M_isArc.desc).map (fun d => d.parameters.length) = some 1 := by decide +kernel
abbrev rm_M_areTwo : Room := { frames := 2, cells := 0, slots := 0, locals := 43 }
theorem hy_M_areTwo : y_M_areTwo.cls ≠ "java/lang/invoke/MethodHandle" ∧ y_M_areTwo.cls ≠ "java/lang/invoke/VarHandle" ∧ (parseMethodDescriptor y_M_areTwo.desc).map (fun d => d.parameters.length) = some 2 := by decide +kernel
abbrev rm_M_node : Room := { frames := 0, cells := 0, slots := 0, locals := 0 }
theorem hy_M_node : y_M_node.cls ≠ "java/lang/invoke/MethodHandle" ∧ y_M_node.cls ≠ "java/lang/invoke/VarHandle" ∧ (parseMethodDescriptor y_M_node.desc).map (fun d => d.parameters.length) = some 0 := by decide +kernel
abbrev rm_M_arc : Room := { frames := 3, cells := 0, slots := 0, locals := 65 }
theorem hy_M_arc : y_M_arc.cls ≠ "java/lang/invoke/MethodHandle" ∧ y_M_arc.cls ≠ "java/lang/invoke/VarHandle" ∧ (parseMethodDescriptor y_M_arc.desc).map (fun d => d.parameters.length) = some 4 := by decide +kernel
abbrev rm_M_change : Room := { frames := 2, cells := 0, slots := 0, locals := 43 }
theorem hy_M_change : y_M_change.cls ≠ "java/lang/invoke/MethodHandle" ∧ y_M_change.cls ≠ "java/lang/invoke/VarHandle" ∧ (parseMethodDescriptor y_M_change.desc).map (fun d => d.parameters.length) = some 3 := by decide +kernel
abbrev rm_M_shut : Room := { frames := 2, cells := 0, slots := 0, locals := 43 }
theorem hy_M_shut : y_M_shut.cls ≠ "java/lang/invoke/MethodHandle" ∧ y_M_shut.cls ≠ "java/lang/invoke/VarHandle" ∧ (parseMethodDescriptor y_M_shut.desc).map (fun d => d.parameters.length) = some 2 := by decide +kernel
abbrev rm_M_find : Room := { frames := 2, cells := 0, slots := 0, locals := 54 }
theorem hy_M_find : y_M_find.cls ≠ "java/lang/invoke/MethodHandle" ∧ y_M_find.cls ≠ "java/lang/invoke/VarHandle" ∧ (parseMethodDescriptor y_M_find.desc).map (fun d => d.parameters.length) = some 2 := by decide +kernel
abbrev rm_M_keep : Room := { frames := 1, cells := 0, slots := 0, locals := 25 }
theorem hy_M_keep : y_M_keep.cls ≠ "java/lang/invoke/MethodHandle" ∧ y_M_keep.cls ≠ "java/lang/invoke/VarHandle" ∧ (parseMethodDescriptor y_M_keep.desc).map (fun d => d.parameters.length) = some 1 := by decide +kernel
abbrev rm_M_isAhead : Room := { frames := 0, cells := 0, slots := 0, locals := 0 }
theorem hy_M_isAhead : y_M_isAhead.cls ≠ "java/lang/invoke/MethodHandle" ∧ y_M_isAhead.cls ≠ "java/lang/invoke/VarHandle" ∧ (parseMethodDescriptor y_M_isAhead.desc).map (fun d => d.parameters.length) = some 4 := by decide +kernel
abbrev rm_M_tell : Room := { frames := 0, cells := 0, slots := 0, locals := 0 }
theorem hy_M_tell : y_M_tell.cls ≠ "java/lang/invoke/MethodHandle" ∧ y_M_tell.cls ≠ "java/lang/invoke/VarHandle" ∧ (parseMethodDescriptor y_M_tell.desc).map (fun d => d.parameters.length) = some 1 := by decide +kernel
abbrev rm_M_next : Room := { frames := 3, cells := 0, slots := 0, locals := 79 }
theorem hy_M_next : y_M_next.cls ≠ "java/lang/invoke/MethodHandle" ∧ y_M_next.cls ≠ "java/lang/invoke/VarHandle" ∧ (parseMethodDescriptor y_M_next.desc).map (fun d => d.parameters.length) = some 3 := by decide +kernel
abbrev rm_M_count : Room := { frames := 3, cells := 0, slots := 0, locals := 79 }
theorem hy_M_count : y_M_count.cls ≠ "java/lang/invoke/MethodHandle" ∧ y_M_count.cls ≠ "java/lang/invoke/VarHandle" ∧ (parseMethodDescriptor y_M_count.desc).map (fun d => d.parameters.length) = some 2 := by decide +kernel
abbrev rm_M_apart : Room := { frames := 4, cells := 0, slots := 0, locals := 91 }
theorem hy_M_apart : y_M_apart.cls ≠ "java/lang/invoke/MethodHandle" ∧ y_M_apart.cls ≠ "java/lang/invoke/VarHandle" ∧ (parseMethodDescriptor y_M_apart.desc).map (fun d => d.parameters.length) = some 4 := by decide +kernel
abbrev rm_M_out : Room := { frames := 0, cells := 0, slots := 0, locals := 0 }
theorem hy_M_out : y_M_out.cls ≠ "java/lang/invoke/MethodHandle" ∧ y_M_out.cls ≠ "java/lang/invoke/VarHandle" ∧ (parseMethodDescriptor y_M_out.desc).map (fun d => d.parameters.length) = some 1 := by decide +kernel
abbrev rm_M_isJoined : Room := { frames := 0, cells := 0, slots := 0, locals := 0 }
theorem hy_M_isJoined : y_M_isJoined.cls ≠ "java/lang/invoke/MethodHandle" ∧ y_M_isJoined.cls ≠ "java/lang/invoke/VarHandle" ∧ (parseMethodDescriptor y_M_isJoined.desc).map (fun d => d.parameters.length) = some 3 := by decide +kernel
abbrev rm_M_many : Room := { frames := 0, cells := 0, slots := 0, locals := 0 }
theorem hy_M_many : y_M_many.cls ≠ "java/lang/invoke/MethodHandle" ∧ y_M_many.cls ≠ "java/lang/invoke/VarHandle" ∧ (parseMethodDescriptor y_M_many.desc).map (fun d => d.parameters.length) = some 1 := by decide +kernel
abbrev rm_M_most : Room := { frames := 3, cells := 0, slots := 0, locals := 65 }
theorem hy_M_most : y_M_most.cls ≠ "java/lang/invoke/MethodHandle" ∧ y_M_most.cls ≠ "java/lang/invoke/VarHandle" ∧ (parseMethodDescriptor y_M_most.desc).map (fun d => d.parameters.length) = some 3 := by decide +kernel
abbrev rm_M_within : Room := { frames := 3, cells := 0, slots := 0, locals := 79 }
theorem hy_M_within : y_M_within.cls ≠ "java/lang/invoke/MethodHandle" ∧ y_M_within.cls ≠ "java/lang/invoke/VarHandle" ∧ (parseMethodDescriptor y_M_within.desc).map (fun d => d.parameters.length) = some 3 := by decide +kernel
abbrev rm_M_isBettered : Room := { frames := 0, cells := 0, slots := 0, locals := 0 }
theorem hy_M_isBettered : y_M_isBettered.cls ≠ "java/lang/invoke/MethodHandle" ∧ y_M_isBettered.cls ≠ "java/lang/invoke/VarHandle" ∧ (parseMethodDescriptor y_M_isBettered.desc).map (fun d => d.parameters.length) = some 1 := by decide +kernel
abbrev rm_M_pairs : Room := { frames := 3, cells := 0, slots := 0, locals := 79 }
theorem hy_M_pairs : y_M_pairs.cls ≠ "java/lang/invoke/MethodHandle" ∧ y_M_pairs.cls ≠ "java/lang/invoke/VarHandle" ∧ (parseMethodDescriptor y_M_pairs.desc).map (fun d => d.parameters.length) = some 2 := by decide +kernel
abbrev rm_M_pair : Room := { frames := 1, cells := 0, slots := 0, locals := 22 }
theorem hy_M_pair : y_M_pair.cls ≠ "java/lang/invoke/MethodHandle" ∧ y_M_pair.cls ≠ "java/lang/invoke/VarHandle" ∧ (parseMethodDescriptor y_M_pair.desc).map (fun d => d.parameters.length) = some 2 := by decide +kernel
abbrev rm_M_step : Room := { frames := 1, cells := 0, slots := 0, locals := 22 }
theorem hy_M_step : y_M_step.cls ≠ "java/lang/invoke/MethodHandle" ∧ y_M_step.cls ≠ "java/lang/invoke/VarHandle" ∧ (parseMethodDescriptor y_M_step.desc).map (fun d => d.parameters.length) = some 1 := by decide +kernel
abbrev rm_M_sum : Room := { frames := 1, cells := 0, slots := 0, locals := 22 }
theorem hy_M_sum : y_M_sum.cls ≠ "java/lang/invoke/MethodHandle" ∧ y_M_sum.cls ≠ "java/lang/invoke/VarHandle" ∧ (parseMethodDescriptor y_M_sum.desc).map (fun d => d.parameters.length) = some 1 := by decide +kernel
abbrev rm_M_told : Room := { frames := 2, cells := 0, slots := 0, locals := 43 }
theorem hy_M_told : y_M_told.cls ≠ "java/lang/invoke/MethodHandle" ∧ y_M_told.cls ≠ "java/lang/invoke/VarHandle" ∧ (parseMethodDescriptor y_M_told.desc).map (fun d => d.parameters.length) = some 2 := by decide +kernel
abbrev rm_M_of : Room := { frames := 1, cells := 0, slots := 0, locals := 22 }
theorem hy_M_of : y_M_of.cls ≠ "java/lang/invoke/MethodHandle" ∧ y_M_of.cls ≠ "java/lang/invoke/VarHandle" ∧ (parseMethodDescriptor y_M_of.desc).map (fun d => d.parameters.length) = some 1 := by decide +kernel
abbrev rm_B_init : Room := { frames := 1, cells := 0, slots := 0, locals := 20 }
theorem hy_B_init : y_B_init.cls ≠ "java/lang/invoke/MethodHandle" ∧ y_B_init.cls ≠ "java/lang/invoke/VarHandle" ∧ (parseMethodDescriptor y_B_init.desc).map (fun d => d.parameters.length) = some 0 := by decide +kernel
abbrev rm_B_empty : Room := { frames := 0, cells := 0, slots := 0, locals := 0 }
theorem hy_B_empty : y_B_empty.cls ≠ "java/lang/invoke/MethodHandle" ∧ y_B_empty.cls ≠ "java/lang/invoke/VarHandle" ∧ (parseMethodDescriptor y_B_empty.desc).map (fun d => d.parameters.length) = some 0 := by decide +kernel
abbrev rm_B_offer : Room := { frames := 0, cells := 0, slots := 0, locals := 0 }
theorem hy_B_offer : y_B_offer.cls ≠ "java/lang/invoke/MethodHandle" ∧ y_B_offer.cls ≠ "java/lang/invoke/VarHandle" ∧ (parseMethodDescriptor y_B_offer.desc).map (fun d => d.parameters.length) = some 2 := by decide +kernel
abbrev rm_F_init : Room := { frames := 1, cells := 0, slots := 0, locals := 20 }
theorem hy_F_init : y_F_init.cls ≠ "java/lang/invoke/MethodHandle" ∧ y_F_init.cls ≠ "java/lang/invoke/VarHandle" ∧ (parseMethodDescriptor y_F_init.desc).map (fun d => d.parameters.length) = some 1 := by decide +kernel
abbrev rm_F_entry : Room := { frames := 0, cells := 0, slots := 0, locals := 0 }
theorem hy_F_entry : y_F_entry.cls ≠ "java/lang/invoke/MethodHandle" ∧ y_F_entry.cls ≠ "java/lang/invoke/VarHandle" ∧ (parseMethodDescriptor y_F_entry.desc).map (fun d => d.parameters.length) = some 1 := by decide +kernel
abbrev rm_F_exit : Room := { frames := 0, cells := 0, slots := 0, locals := 0 }
theorem hy_F_exit : y_F_exit.cls ≠ "java/lang/invoke/MethodHandle" ∧ y_F_exit.cls ≠ "java/lang/invoke/VarHandle" ∧ (parseMethodDescriptor y_F_exit.desc).map (fun d => d.parameters.length) = some 1 := by decide +kernel
abbrev rm_F_prepare : Room := { frames := 2, cells := 0, slots := 0, locals := 49 }
theorem hy_F_prepare : y_F_prepare.cls ≠ "java/lang/invoke/MethodHandle" ∧ y_F_prepare.cls ≠ "java/lang/invoke/VarHandle" ∧ (parseMethodDescriptor y_F_prepare.desc).map (fun d => d.parameters.length) = some 3 := by decide +kernel
abbrev rm_F_addEdge : Room := { frames := 1, cells := 0, slots := 0, locals := 25 }
theorem hy_F_addEdge : y_F_addEdge.cls ≠ "java/lang/invoke/MethodHandle" ∧ y_F_addEdge.cls ≠ "java/lang/invoke/VarHandle" ∧ (parseMethodDescriptor y_F_addEdge.desc).map (fun d => d.parameters.length) = some 4 := by decide +kernel
abbrev rm_F_setEdge : Room := { frames := 0, cells := 0, slots := 0, locals := 0 }
theorem hy_F_setEdge : y_F_setEdge.cls ≠ "java/lang/invoke/MethodHandle" ∧ y_F_setEdge.cls ≠ "java/lang/invoke/VarHandle" ∧ (parseMethodDescriptor y_F_setEdge.desc).map (fun d => d.parameters.length) = some 5 := by decide +kernel
abbrev rm_F_addPath : Room := { frames := 2, cells := 0, slots := 0, locals := 46 }
theorem hy_F_addPath : y_F_addPath.cls ≠ "java/lang/invoke/MethodHandle" ∧ y_F_addPath.cls ≠ "java/lang/invoke/VarHandle" ∧ (parseMethodDescriptor y_F_addPath.desc).map (fun d => d.parameters.length) = some 0 := by decide +kernel
abbrev rm_F_measure : Room := { frames := 1, cells := 0, slots := 0, locals := 23 }
theorem hy_F_measure : y_F_measure.cls ≠ "java/lang/invoke/MethodHandle" ∧ y_F_measure.cls ≠ "java/lang/invoke/VarHandle" ∧ (parseMethodDescriptor y_F_measure.desc).map (fun d => d.parameters.length) = some 0 := by decide +kernel
abbrev rm_F_tryEdge : Room := { frames := 0, cells := 0, slots := 0, locals := 0 }
theorem hy_F_tryEdge : y_F_tryEdge.cls ≠ "java/lang/invoke/MethodHandle" ∧ y_F_tryEdge.cls ≠ "java/lang/invoke/VarHandle" ∧ (parseMethodDescriptor y_F_tryEdge.desc).map (fun d => d.parameters.length) = some 1 := by decide +kernel
abbrev rm_G_init : Room := { frames := 1, cells := 0, slots := 0, locals := 20 }
theorem hy_G_init : y_G_init.cls ≠ "java/lang/invoke/MethodHandle" ∧ y_G_init.cls ≠ "java/lang/invoke/VarHandle" ∧ (parseMethodDescriptor y_G_init.desc).map (fun d => d.parameters.length) = some 0 := by decide +kernel
abbrev rm_G_empty : Room := { frames := 1, cells := 0, slots := 0, locals := 23 }
theorem hy_G_empty : y_G_empty.cls ≠ "java/lang/invoke/MethodHandle" ∧ y_G_empty.cls ≠ "java/lang/invoke/VarHandle" ∧ (parseMethodDescriptor y_G_empty.desc).map (fun d => d.parameters.length) = some 0 := by decide +kernel
abbrev rm_G_isNode : Room := { frames := 1, cells := 0, slots := 0, locals := 22 }
theorem hy_G_isNode : y_G_isNode.cls ≠ "java/lang/invoke/MethodHandle" ∧ y_G_isNode.cls ≠ "java/lang/invoke/VarHandle" ∧ (parseMethodDescriptor y_G_isNode.desc).map (fun d => d.parameters.length) = some 1 := by decide +kernel
abbrev rm_G_areTwoNodes : Room := { frames := 2, cells := 0, slots := 0, locals := 43 }
theorem hy_G_areTwoNodes : y_G_areTwoNodes.cls ≠ "java/lang/invoke/MethodHandle" ∧ y_G_areTwoNodes.cls ≠ "java/lang/invoke/VarHandle" ∧ (parseMethodDescriptor y_G_areTwoNodes.desc).map (fun d => d.parameters.length) = some 2 := by decide +kernel
abbrev rm_G_isArc : Room := { frames := 1, cells := 0, slots := 0, locals := 22 }
theorem hy_G_isArc : y_G_isArc.cls ≠ "java/lang/invoke/MethodHandle" ∧ y_G_isArc.cls ≠ "java/lang/invoke/VarHandle" ∧ (parseMethodDescriptor y_G_isArc.desc).map (fun d => d.parameters.length) = some 1 := by decide +kernel
abbrev rm_G_addNode : Room := { frames := 0, cells := 0, slots := 0, locals := 0 }
theorem hy_G_addNode : y_G_addNode.cls ≠ "java/lang/invoke/MethodHandle" ∧ y_G_addNode.cls ≠ "java/lang/invoke/VarHandle" ∧ (parseMethodDescriptor y_G_addNode.desc).map (fun d => d.parameters.length) = some 0 := by decide +kernel
abbrev rm_G_addArc : Room := { frames := 0, cells := 0, slots := 0, locals := 0 }
theorem hy_G_addArc : y_G_addArc.cls ≠ "java/lang/invoke/MethodHandle" ∧ y_G_addArc.cls ≠ "java/lang/invoke/VarHandle" ∧ (parseMethodDescriptor y_G_addArc.desc).map (fun d => d.parameters.length) = some 4 := by decide +kernel
abbrev rm_G_shutArcs : Room := { frames := 0, cells := 0, slots := 0, locals := 0 }
theorem hy_G_shutArcs : y_G_shutArcs.cls ≠ "java/lang/invoke/MethodHandle" ∧ y_G_shutArcs.cls ≠ "java/lang/invoke/VarHandle" ∧ (parseMethodDescriptor y_G_shutArcs.desc).map (fun d => d.parameters.length) = some 0 := by decide +kernel
abbrev rm_G_secondOf : Room := { frames := 2, cells := 0, slots := 0, locals := 43 }
theorem hy_G_secondOf : y_G_secondOf.cls ≠ "java/lang/invoke/MethodHandle" ∧ y_G_secondOf.cls ≠ "java/lang/invoke/VarHandle" ∧ (parseMethodDescriptor y_G_secondOf.desc).map (fun d => d.parameters.length) = some 1 := by decide +kernel
abbrev rm_C_head : Room := { frames := 0, cells := 0, slots := 0, locals := 0 }
theorem hy_C_head : y_C_head.cls ≠ "java/lang/invoke/MethodHandle" ∧ y_C_head.cls ≠ "java/lang/invoke/VarHandle" ∧ (parseMethodDescriptor y_C_head.desc).map (fun d => d.parameters.length) = some 2 := by decide +kernel
abbrev rm_C_arcAt : Room := { frames := 1, cells := 0, slots := 0, locals := 20 }
theorem hy_C_arcAt : y_C_arcAt.cls ≠ "java/lang/invoke/MethodHandle" ∧ y_C_arcAt.cls ≠ "java/lang/invoke/VarHandle" ∧ (parseMethodDescriptor y_C_arcAt.desc).map (fun d => d.parameters.length) = some 2 := by decide +kernel
abbrev rm_C_weightIn : Room := { frames := 0, cells := 0, slots := 0, locals := 0 }
theorem hy_C_weightIn : y_C_weightIn.cls ≠ "java/lang/invoke/MethodHandle" ∧ y_C_weightIn.cls ≠ "java/lang/invoke/VarHandle" ∧ (parseMethodDescriptor y_C_weightIn.desc).map (fun d => d.parameters.length) = some 1 := by decide +kernel
abbrev rm_C_lengthIn : Room := { frames := 0, cells := 0, slots := 0, locals := 0 }
theorem hy_C_lengthIn : y_C_lengthIn.cls ≠ "java/lang/invoke/MethodHandle" ∧ y_C_lengthIn.cls ≠ "java/lang/invoke/VarHandle" ∧ (parseMethodDescriptor y_C_lengthIn.desc).map (fun d => d.parameters.length) = some 1 := by decide +kernel
abbrev rm_C_arcIn : Room := { frames := 1, cells := 0, slots := 0, locals := 20 }
theorem hy_C_arcIn : y_C_arcIn.cls ≠ "java/lang/invoke/MethodHandle" ∧ y_C_arcIn.cls ≠ "java/lang/invoke/VarHandle" ∧ (parseMethodDescriptor y_C_arcIn.desc).map (fun d => d.parameters.length) = some 2 := by decide +kernel
abbrev rm_C_shiftOf : Room := { frames := 0, cells := 0, slots := 0, locals := 0 }
theorem hy_C_shiftOf : y_C_shiftOf.cls ≠ "java/lang/invoke/MethodHandle" ∧ y_C_shiftOf.cls ≠ "java/lang/invoke/VarHandle" ∧ (parseMethodDescriptor y_C_shiftOf.desc).map (fun d => d.parameters.length) = some 1 := by decide +kernel
abbrev rm_P_init : Room := { frames := 1, cells := 0, slots := 0, locals := 20 }
theorem hy_P_init : y_P_init.cls ≠ "java/lang/invoke/MethodHandle" ∧ y_P_init.cls ≠ "java/lang/invoke/VarHandle" ∧ (parseMethodDescriptor y_P_init.desc).map (fun d => d.parameters.length) = some 2 := by decide +kernel
abbrev rm_P_findAll : Room := { frames := 12, cells := 0, slots := 0, locals := 291 }
theorem hy_P_findAll : y_P_findAll.cls ≠ "java/lang/invoke/MethodHandle" ∧ y_P_findAll.cls ≠ "java/lang/invoke/VarHandle" ∧ (parseMethodDescriptor y_P_findAll.desc).map (fun d => d.parameters.length) = some 2 := by decide +kernel
abbrev rm_P_walkOn (d : Nat) : Room := { frames := 3 + d, cells := 0, slots := 0, locals := 66 + 25 * d }
theorem hy_P_walkOn : y_P_walkOn.cls ≠ "java/lang/invoke/MethodHandle" ∧ y_P_walkOn.cls ≠ "java/lang/invoke/VarHandle" ∧ (parseMethodDescriptor y_P_walkOn.desc).map (fun d => d.parameters.length) = some 3 := by decide +kernel
abbrev rm_P_code : Room := { frames := 2, cells := 0, slots := 0, locals := 41 }
theorem hy_P_code : y_P_code.cls ≠ "java/lang/invoke/MethodHandle" ∧ y_P_code.cls ≠ "java/lang/invoke/VarHandle" ∧ (parseMethodDescriptor y_P_code.desc).map (fun d => d.parameters.length) = some 1 := by decide +kernel
abbrev rm_H_init : Room := { frames := 1, cells := 0, slots := 0, locals := 20 }
theorem hy_H_init : y_H_init.cls ≠ "java/lang/invoke/MethodHandle" ∧ y_H_init.cls ≠ "java/lang/invoke/VarHandle" ∧ (parseMethodDescriptor y_H_init.desc).map (fun d => d.parameters.length) = some 0 := by decide +kernel
abbrev rm_H_empty : Room := { frames := 0, cells := 0, slots := 0, locals := 0 }
theorem hy_H_empty : y_H_empty.cls ≠ "java/lang/invoke/MethodHandle" ∧ y_H_empty.cls ≠ "java/lang/invoke/VarHandle" ∧ (parseMethodDescriptor y_H_empty.desc).map (fun d => d.parameters.length) = some 0 := by decide +kernel
abbrev rm_H_add : Room := { frames := 0, cells := 0, slots := 0, locals := 0 }
theorem hy_H_add : y_H_add.cls ≠ "java/lang/invoke/MethodHandle" ∧ y_H_add.cls ≠ "java/lang/invoke/VarHandle" ∧ (parseMethodDescriptor y_H_add.desc).map (fun d => d.parameters.length) = some 1 := by decide +kernel
abbrev rm_H_takeFirst : Room := { frames := 1, cells := 0, slots := 0, locals := 25 }
theorem hy_H_takeFirst : y_H_takeFirst.cls ≠ "java/lang/invoke/MethodHandle" ∧ y_H_takeFirst.cls ≠ "java/lang/invoke/VarHandle" ∧ (parseMethodDescriptor y_H_takeFirst.desc).map (fun d => d.parameters.length) = some 0 := by decide +kernel
abbrev rm_H_sinkFromTop : Room := { frames := 0, cells := 0, slots := 0, locals := 0 }
theorem hy_H_sinkFromTop : y_H_sinkFromTop.cls ≠ "java/lang/invoke/MethodHandle" ∧ y_H_sinkFromTop.cls ≠ "java/lang/invoke/VarHandle" ∧ (parseMethodDescriptor y_H_sinkFromTop.desc).map (fun d => d.parameters.length) = some 1 := by decide +kernel
abbrev rm_T_init : Room := { frames := 1, cells := 0, slots := 0, locals := 20 }
theorem hy_T_init : y_T_init.cls ≠ "java/lang/invoke/MethodHandle" ∧ y_T_init.cls ≠ "java/lang/invoke/VarHandle" ∧ (parseMethodDescriptor y_T_init.desc).map (fun d => d.parameters.length) = some 0 := by decide +kernel
abbrev rm_T_empty : Room := { frames := 0, cells := 0, slots := 0, locals := 0 }
theorem hy_T_empty : y_T_empty.cls ≠ "java/lang/invoke/MethodHandle" ∧ y_T_empty.cls ≠ "java/lang/invoke/VarHandle" ∧ (parseMethodDescriptor y_T_empty.desc).map (fun d => d.parameters.length) = some 0 := by decide +kernel
abbrev rm_T_tell : Room := { frames := 3, cells := 0, slots := 0, locals := 68 }
theorem hy_T_tell : y_T_tell.cls ≠ "java/lang/invoke/MethodHandle" ∧ y_T_tell.cls ≠ "java/lang/invoke/VarHandle" ∧ (parseMethodDescriptor y_T_tell.desc).map (fun d => d.parameters.length) = some 2 := by decide +kernel
abbrev rm_J_fill : Room := { frames := 0, cells := 0, slots := 0, locals := 0 }
theorem hy_J_fill : y_J_fill.cls ≠ "java/lang/invoke/MethodHandle" ∧ y_J_fill.cls ≠ "java/lang/invoke/VarHandle" ∧ (parseMethodDescriptor y_J_fill.desc).map (fun d => d.parameters.length) = some 2 := by decide +kernel
section RK
variable {τ : Type} {p : Program} {l : Launch} {e : Env} {R : Room} {s : State} {m : MethodId} {args : Array Value} {below : List Frame} {meth : Method} {c : Code} {D : va_G} {cl : List vw_C} {tys : List (ClassId × FieldType)} {A : Nat → Prop} {nL nc ns : Nat} {Q : State → Prop} {w : τ → va_W} {x : τ} {lv : List (Nat × Value)} {pc n : Nat} {st st0 : List Value} {a : Array Value}
theorem g_runI {f : Int → τ → Prop} (hfix : fixD w) (hn : pc + 3 = n) (hr : ∀ (H : Heap) (locs : List Loc) (ls : Array Slot), va_P D cl (w x) H → va_D A (w x) → lv_has ls nL lv → va_Run p l e R s m args below meth c H locs nc ns 0 0 (F0 m pc ls st0) st (QcW D cl w x (pI f) a) (adr (w x)))
    (k : ∀ (z : Int) (x' : τ), f z x' → GG p l e R s m args below meth c D cl A nL nc ns Q w x' lv n (.int (iI z) :: st)) : GG p l e R s m args below meth c D cl A nL nc ns Q w x lv pc st0 :=
  g_run hfix hn hr (fun v x' hp => by obtain ⟨z, rfl, hz⟩ := hp; exact k z x' hz)
theorem g_runL {f : Int → τ → Prop} (hfix : fixD w) (hn : pc + 3 = n) (hr : ∀ (H : Heap) (locs : List Loc) (ls : Array Slot), va_P D cl (w x) H → va_D A (w x) → lv_has ls nL lv → va_Run p l e R s m args below meth c H locs nc ns 0 0 (F0 m pc ls st0) st (QcW D cl w x (pL f) a) (adr (w x)))
    (k : ∀ (z : Int) (x' : τ), f z x' → GG p l e R s m args below meth c D cl A nL nc ns Q w x' lv n (.long (lI z) :: st)) : GG p l e R s m args below meth c D cl A nL nc ns Q w x lv pc st0 :=
  g_run hfix hn hr (fun v x' hp => by obtain ⟨z, rfl, hz⟩ := hp; exact k z x' hz)
theorem g_runV {f : τ → Prop} (hfix : fixD w) (hn : pc + 3 = n) (hr : ∀ (H : Heap) (locs : List Loc) (ls : Array Slot), va_P D cl (w x) H → va_D A (w x) → lv_has ls nL lv → va_Run p l e R s m args below meth c H locs nc ns 0 0 (F0 m pc ls st0) st (QcW D cl w x (pV f) a) (adr (w x)))
    (k : ∀ (x' : τ), f x' → GG p l e R s m args below meth c D cl A nL nc ns Q w x' lv n st) : GG p l e R s m args below meth c D cl A nL nc ns Q w x lv pc st0 :=
  g_run hfix hn hr (fun v x' hp => by obtain ⟨rfl, hz⟩ := hp; exact k x' hz)
end RK
/-- a contract's beginning -/
theorem MM.go {τ : Type} {l : Launch} {D : va_G} {cl : List vw_C} {tys : List (ClassId × FieldType)} {w : τ → va_W} {y : MethodName} {rm : Room} {av : List Value} {x : τ} {post : Option Value → τ → Prop} (cc : ByteArray) (maxL : Nat) (ret : Option FieldType) (own : String) (lv : List (Nat × Value)) (hy : plainName y.cls = true) (ho : y.cls = own) (hlv : lv_args 0 av = lv) (hal : (lg_sl av).length ≤ maxL)
    (body : ∀ (p : Program) (e : Env) (s : State) (m : MethodId) (args : Array Value) (below : List Frame) (meth : Method) (c : Code), CX p s m args c cc maxL own TT D cl tys → meth.sig.returnType = ret → meth.locks = false →
      GG p l e rm s m args below meth c D cl (adr (w x)) maxL 0 0 (MQ below (QcW D cl w x post) args s 0 0 (adr (w x))) w x lv 0 []) : MM l D cl tys w y (Cond.code y cc maxL ret :: TT) rm av x post :=
  MM.mk cc maxL ret hy ho hal (fun p e s m args below meth c C h1 h2 => hlv ▸ body p e s m args below meth c C h1 h2)
abbrev MX (l : Launch) (D : va_G) (a : Nat → Nat) (ki kz kl kq : ClassId) (y : MethodName) (b : ByteArray) (maxL : Nat) (ret : Option FieldType) (rm : Room) (av : List Value) (S : Nat → Int → Int) (post : Option Value → (Nat → Int → Int) → Prop) : Prop := MM l D cls (tyz ki kz kl kq) (wX a ki kz kl kq) y (Cond.code y b maxL ret :: TT) rm av S post
abbrev MY (l : Launch) (D : va_G) (a : Nat → Nat) (ki kz kl kq : ClassId) (y : MethodName) (b : ByteArray) (maxL : Nat) (ret : Option FieldType) (rm : Room) (av : List Value) (S : Nat → Int → Int) (post : Option Value → (Nat → Int → Int) → Prop) : Prop := MM l D cls (tyz ki kz kl kq) (wY a ki kz kl kq) y (Cond.code y b maxL ret :: TT) rm av S post
section ROWS
variable {a : Nat → Nat} {ki kz kl kq : ClassId} {S : Nat → Int → Int} {z v : Int}
theorem wX_row {k : Nat} (h : k < 8) : (wX a ki kz kl kq S)[8 + k]? = some (a (8 + k), .inl (ki, 20, .inl (ia (S (8 + k))))) :=
  match k, h with
  | 0, _ => rfl | 1, _ => rfl | 2, _ => rfl | 3, _ => rfl | 4, _ => rfl | 5, _ => rfl | 6, _ => rfl | 7, _ => rfl
theorem wX_srow {k : Nat} (h : k < 8) : (wX a ki kz kl kq S).set (8 + k) (a (8 + k), .inl (ki, 20, .inl (ia (up_ (S (8 + k)) z v)))) = wX a ki kz kl kq (us S (8 + k) z v) :=
  match k, h with
  | 0, _ => rfl | 1, _ => rfl | 2, _ => rfl | 3, _ => rfl | 4, _ => rfl | 5, _ => rfl | 6, _ => rfl | 7, _ => rfl
end ROWS
