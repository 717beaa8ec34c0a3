theorem d_M_init_0 : decode b_M_init 0 = .ok (.aload_n 0, 1) := by decide +kernel
theorem d_M_init_1 : decode b_M_init 1 = .ok (.invokespecial 1, 3) := by decide +kernel
theorem d_M_init_4 : decode b_M_init 4 = .ok (.aload_n 0, 1) := by decide +kernel
theorem d_M_init_5 : decode b_M_init 5 = .ok (.bipush 20, 2) := by decide +kernel
theorem d_M_init_7 : decode b_M_init 7 = .ok (.newarray .int, 2) := by decide +kernel
theorem d_M_init_9 : decode b_M_init 9 = .ok (.putfield 7, 3) := by decide +kernel
theorem d_M_init_12 : decode b_M_init 12 = .ok (.aload_n 0, 1) := by decide +kernel
theorem d_M_init_13 : decode b_M_init 13 = .ok (.bipush 20, 2) := by decide +kernel
theorem d_M_init_15 : decode b_M_init 15 = .ok (.newarray .int, 2) := by decide +kernel
theorem d_M_init_17 : decode b_M_init 17 = .ok (.putfield 13, 3) := by decide +kernel
theorem d_M_init_20 : decode b_M_init 20 = .ok (.aload_n 0, 1) := by decide +kernel
theorem d_M_init_21 : decode b_M_init 21 = .ok (.bipush 20, 2) := by decide +kernel
theorem d_M_init_23 : decode b_M_init 23 = .ok (.newarray .int, 2) := by decide +kernel
theorem d_M_init_25 : decode b_M_init 25 = .ok (.putfield 16, 3) := by decide +kernel
theorem d_M_init_28 : decode b_M_init 28 = .ok (.aload_n 0, 1) := by decide +kernel
theorem d_M_init_29 : decode b_M_init 29 = .ok (.bipush 20, 2) := by decide +kernel
theorem d_M_init_31 : decode b_M_init 31 = .ok (.newarray .int, 2) := by decide +kernel
theorem d_M_init_33 : decode b_M_init 33 = .ok (.putfield 19, 3) := by decide +kernel
theorem d_M_init_36 : decode b_M_init 36 = .ok (.aload_n 0, 1) := by decide +kernel
theorem d_M_init_37 : decode b_M_init 37 = .ok (.bipush 20, 2) := by decide +kernel
theorem d_M_init_39 : decode b_M_init 39 = .ok (.newarray .boolean, 2) := by decide +kernel
theorem d_M_init_41 : decode b_M_init 41 = .ok (.putfield 22, 3) := by decide +kernel
theorem d_M_init_44 : decode b_M_init 44 = .ok (.aload_n 0, 1) := by decide +kernel
theorem d_M_init_45 : decode b_M_init 45 = .ok (.sipush 4000, 3) := by decide +kernel
theorem d_M_init_48 : decode b_M_init 48 = .ok (.newarray .int, 2) := by decide +kernel
theorem d_M_init_50 : decode b_M_init 50 = .ok (.putfield 26, 3) := by decide +kernel
theorem d_M_init_53 : decode b_M_init 53 = .ok (.aload_n 0, 1) := by decide +kernel
theorem d_M_init_54 : decode b_M_init 54 = .ok (.sipush 4000, 3) := by decide +kernel
theorem d_M_init_57 : decode b_M_init 57 = .ok (.newarray .int, 2) := by decide +kernel
theorem d_M_init_59 : decode b_M_init 59 = .ok (.putfield 29, 3) := by decide +kernel
theorem d_M_init_62 : decode b_M_init 62 = .ok (.aload_n 0, 1) := by decide +kernel
theorem d_M_init_63 : decode b_M_init 63 = .ok (.sipush 4000, 3) := by decide +kernel
theorem d_M_init_66 : decode b_M_init 66 = .ok (.newarray .long, 2) := by decide +kernel
theorem d_M_init_68 : decode b_M_init 68 = .ok (.putfield 32, 3) := by decide +kernel
theorem d_M_init_71 : decode b_M_init 71 = .ok (.aload_n 0, 1) := by decide +kernel
theorem d_M_init_72 : decode b_M_init 72 = .ok (.sipush 4000, 3) := by decide +kernel
theorem d_M_init_75 : decode b_M_init 75 = .ok (.newarray .int, 2) := by decide +kernel
theorem d_M_init_77 : decode b_M_init 77 = .ok (.putfield 36, 3) := by decide +kernel
theorem d_M_init_80 : decode b_M_init 80 = .ok (.aload_n 0, 1) := by decide +kernel
theorem d_M_init_81 : decode b_M_init 81 = .ok (.sipush 4000, 3) := by decide +kernel
theorem d_M_init_84 : decode b_M_init 84 = .ok (.newarray .int, 2) := by decide +kernel
theorem d_M_init_86 : decode b_M_init 86 = .ok (.putfield 39, 3) := by decide +kernel
theorem d_M_init_89 : decode b_M_init 89 = .ok (.aload_n 0, 1) := by decide +kernel
theorem d_M_init_90 : decode b_M_init 90 = .ok (.sipush 4000, 3) := by decide +kernel
theorem d_M_init_93 : decode b_M_init 93 = .ok (.newarray .int, 2) := by decide +kernel
theorem d_M_init_95 : decode b_M_init 95 = .ok (.putfield 42, 3) := by decide +kernel
theorem d_M_init_98 : decode b_M_init 98 = .ok (.aload_n 0, 1) := by decide +kernel
theorem d_M_init_99 : decode b_M_init 99 = .ok (.sipush 4000, 3) := by decide +kernel
theorem d_M_init_102 : decode b_M_init 102 = .ok (.newarray .int, 2) := by decide +kernel
theorem d_M_init_104 : decode b_M_init 104 = .ok (.putfield 45, 3) := by decide +kernel
theorem d_M_init_107 : decode b_M_init 107 = .ok (.aload_n 0, 1) := by decide +kernel
theorem d_M_init_108 : decode b_M_init 108 = .ok (.sipush 4000, 3) := by decide +kernel
theorem d_M_init_111 : decode b_M_init 111 = .ok (.newarray .int, 2) := by decide +kernel
theorem d_M_init_113 : decode b_M_init 113 = .ok (.putfield 48, 3) := by decide +kernel
theorem d_M_init_116 : decode b_M_init 116 = .ok (.aload_n 0, 1) := by decide +kernel
theorem d_M_init_117 : decode b_M_init 117 = .ok (.bipush 8, 2) := by decide +kernel
theorem d_M_init_119 : decode b_M_init 119 = .ok (.newarray .int, 2) := by decide +kernel
theorem d_M_init_121 : decode b_M_init 121 = .ok (.putfield 51, 3) := by decide +kernel
theorem d_M_init_124 : decode b_M_init 124 = .ok (.aload_n 0, 1) := by decide +kernel
theorem d_M_init_125 : decode b_M_init 125 = .ok (.bipush 8, 2) := by decide +kernel
theorem d_M_init_127 : decode b_M_init 127 = .ok (.newarray .int, 2) := by decide +kernel
theorem d_M_init_129 : decode b_M_init 129 = .ok (.putfield 54, 3) := by decide +kernel
theorem d_M_init_132 : decode b_M_init 132 = .ok (.aload_n 0, 1) := by decide +kernel
theorem d_M_init_133 : decode b_M_init 133 = .ok (.bipush 6, 2) := by decide +kernel
theorem d_M_init_135 : decode b_M_init 135 = .ok (.newarray .int, 2) := by decide +kernel
theorem d_M_init_137 : decode b_M_init 137 = .ok (.putfield 57, 3) := by decide +kernel
theorem d_M_init_140 : decode b_M_init 140 = .ok (.aload_n 0, 1) := by decide +kernel
theorem d_M_init_141 : decode b_M_init 141 = .ok (.bipush 6, 2) := by decide +kernel
theorem d_M_init_143 : decode b_M_init 143 = .ok (.newarray .int, 2) := by decide +kernel
theorem d_M_init_145 : decode b_M_init 145 = .ok (.putfield 60, 3) := by decide +kernel
theorem d_M_init_148 : decode b_M_init 148 = .ok (.aload_n 0, 1) := by decide +kernel
theorem d_M_init_149 : decode b_M_init 149 = .ok (.bipush 6, 2) := by decide +kernel
theorem d_M_init_151 : decode b_M_init 151 = .ok (.newarray .int, 2) := by decide +kernel
theorem d_M_init_153 : decode b_M_init 153 = .ok (.putfield 63, 3) := by decide +kernel
theorem d_M_init_156 : decode b_M_init 156 = .ok (.aload_n 0, 1) := by decide +kernel
theorem d_M_init_157 : decode b_M_init 157 = .ok (.bipush 6, 2) := by decide +kernel
theorem d_M_init_159 : decode b_M_init 159 = .ok (.newarray .int, 2) := by decide +kernel
theorem d_M_init_161 : decode b_M_init 161 = .ok (.putfield 66, 3) := by decide +kernel
theorem d_M_init_164 : decode b_M_init 164 = .ok (.aload_n 0, 1) := by decide +kernel
theorem d_M_init_165 : decode b_M_init 165 = .ok (.iconst 0, 1) := by decide +kernel
theorem d_M_init_166 : decode b_M_init 166 = .ok (.putfield 69, 3) := by decide +kernel
theorem d_M_init_169 : decode b_M_init 169 = .ok (.return_, 1) := by decide +kernel
theorem d_M_clear_0 : decode b_M_clear 0 = .ok (.aload_n 0, 1) := by decide +kernel
theorem d_M_clear_1 : decode b_M_clear 1 = .ok (.getfield 73, 3) := by decide +kernel
theorem d_M_clear_4 : decode b_M_clear 4 = .ok (.istore_n 1, 1) := by decide +kernel
theorem d_M_clear_5 : decode b_M_clear 5 = .ok (.aload_n 0, 1) := by decide +kernel
theorem d_M_clear_6 : decode b_M_clear 6 = .ok (.iconst 0, 1) := by decide +kernel
theorem d_M_clear_7 : decode b_M_clear 7 = .ok (.putfield 69, 3) := by decide +kernel
theorem d_M_clear_10 : decode b_M_clear 10 = .ok (.aload_n 0, 1) := by decide +kernel
theorem d_M_clear_11 : decode b_M_clear 11 = .ok (.iconst 0, 1) := by decide +kernel
theorem d_M_clear_12 : decode b_M_clear 12 = .ok (.putfield 73, 3) := by decide +kernel
theorem d_M_clear_15 : decode b_M_clear 15 = .ok (.aload_n 0, 1) := by decide +kernel
theorem d_M_clear_16 : decode b_M_clear 16 = .ok (.iconst 0, 1) := by decide +kernel
theorem d_M_clear_17 : decode b_M_clear 17 = .ok (.putfield 76, 3) := by decide +kernel
theorem d_M_clear_20 : decode b_M_clear 20 = .ok (.aload_n 0, 1) := by decide +kernel
theorem d_M_clear_21 : decode b_M_clear 21 = .ok (.iconst 0, 1) := by decide +kernel
theorem d_M_clear_22 : decode b_M_clear 22 = .ok (.putfield 80, 3) := by decide +kernel
theorem d_M_clear_25 : decode b_M_clear 25 = .ok (.iload_n 1, 1) := by decide +kernel
theorem d_M_clear_26 : decode b_M_clear 26 = .ok (.ireturn, 1) := by decide +kernel
theorem d_M_isIn_0 : decode b_M_isIn 0 = .ok (.iload_n 0, 1) := by decide +kernel
theorem d_M_isIn_1 : decode b_M_isIn 1 = .ok (.iload_n 1, 1) := by decide +kernel
theorem d_M_isIn_2 : decode b_M_isIn 2 = .ok (.if_icmp .lt 12, 3) := by decide +kernel
theorem d_M_isIn_5 : decode b_M_isIn 5 = .ok (.iload_n 0, 1) := by decide +kernel
theorem d_M_isIn_6 : decode b_M_isIn 6 = .ok (.iload_n 2, 1) := by decide +kernel
theorem d_M_isIn_7 : decode b_M_isIn 7 = .ok (.if_icmp .gt 7, 3) := by decide +kernel
theorem d_M_isIn_10 : decode b_M_isIn 10 = .ok (.iconst 1, 1) := by decide +kernel
theorem d_M_isIn_11 : decode b_M_isIn 11 = .ok (.goto 4, 3) := by decide +kernel
theorem d_M_isIn_14 : decode b_M_isIn 14 = .ok (.iconst 0, 1) := by decide +kernel
theorem d_M_isIn_15 : decode b_M_isIn 15 = .ok (.ireturn, 1) := by decide +kernel
theorem d_M_isNode_0 : decode b_M_isNode 0 = .ok (.iload_n 1, 1) := by decide +kernel
theorem d_M_isNode_1 : decode b_M_isNode 1 = .ok (.iconst 0, 1) := by decide +kernel
theorem d_M_isNode_2 : decode b_M_isNode 2 = .ok (.aload_n 0, 1) := by decide +kernel
theorem d_M_isNode_3 : decode b_M_isNode 3 = .ok (.getfield 69, 3) := by decide +kernel
theorem d_M_isNode_6 : decode b_M_isNode 6 = .ok (.iconst 1, 1) := by decide +kernel
theorem d_M_isNode_7 : decode b_M_isNode 7 = .ok (.isub, 1) := by decide +kernel
theorem d_M_isNode_8 : decode b_M_isNode 8 = .ok (.invokestatic 83, 3) := by decide +kernel
theorem d_M_isNode_11 : decode b_M_isNode 11 = .ok (.ireturn, 1) := by decide +kernel
theorem d_M_isArc_0 : decode b_M_isArc 0 = .ok (.iload_n 1, 1) := by decide +kernel
theorem d_M_isArc_1 : decode b_M_isArc 1 = .ok (.iconst 0, 1) := by decide +kernel
theorem d_M_isArc_2 : decode b_M_isArc 2 = .ok (.aload_n 0, 1) := by decide +kernel
theorem d_M_isArc_3 : decode b_M_isArc 3 = .ok (.getfield 73, 3) := by decide +kernel
theorem d_M_isArc_6 : decode b_M_isArc 6 = .ok (.iconst 1, 1) := by decide +kernel
theorem d_M_isArc_7 : decode b_M_isArc 7 = .ok (.isub, 1) := by decide +kernel
theorem d_M_isArc_8 : decode b_M_isArc 8 = .ok (.invokestatic 83, 3) := by decide +kernel
theorem d_M_isArc_11 : decode b_M_isArc 11 = .ok (.ireturn, 1) := by decide +kernel
theorem d_M_areTwo_0 : decode b_M_areTwo 0 = .ok (.aload_n 0, 1) := by decide +kernel
theorem d_M_areTwo_1 : decode b_M_areTwo 1 = .ok (.iload_n 1, 1) := by decide +kernel
theorem d_M_areTwo_2 : decode b_M_areTwo 2 = .ok (.invokevirtual 87, 3) := by decide +kernel
theorem d_M_areTwo_5 : decode b_M_areTwo 5 = .ok (.ifCond .eq 20, 3) := by decide +kernel
theorem d_M_areTwo_8 : decode b_M_areTwo 8 = .ok (.aload_n 0, 1) := by decide +kernel
theorem d_M_areTwo_9 : decode b_M_areTwo 9 = .ok (.iload_n 2, 1) := by decide +kernel
theorem d_M_areTwo_10 : decode b_M_areTwo 10 = .ok (.invokevirtual 87, 3) := by decide +kernel
theorem d_M_areTwo_13 : decode b_M_areTwo 13 = .ok (.ifCond .eq 12, 3) := by decide +kernel
theorem d_M_areTwo_16 : decode b_M_areTwo 16 = .ok (.iload_n 1, 1) := by decide +kernel
theorem d_M_areTwo_17 : decode b_M_areTwo 17 = .ok (.iload_n 2, 1) := by decide +kernel
theorem d_M_areTwo_18 : decode b_M_areTwo 18 = .ok (.if_icmp .eq 7, 3) := by decide +kernel
theorem d_M_areTwo_21 : decode b_M_areTwo 21 = .ok (.iconst 1, 1) := by decide +kernel
theorem d_M_areTwo_22 : decode b_M_areTwo 22 = .ok (.goto 4, 3) := by decide +kernel
theorem d_M_areTwo_25 : decode b_M_areTwo 25 = .ok (.iconst 0, 1) := by decide +kernel
theorem d_M_areTwo_26 : decode b_M_areTwo 26 = .ok (.ireturn, 1) := by decide +kernel
theorem d_M_node_0 : decode b_M_node 0 = .ok (.aload_n 0, 1) := by decide +kernel
theorem d_M_node_1 : decode b_M_node 1 = .ok (.getfield 69, 3) := by decide +kernel
theorem d_M_node_4 : decode b_M_node 4 = .ok (.bipush 8, 2) := by decide +kernel
theorem d_M_node_6 : decode b_M_node 6 = .ok (.if_icmp .ne 6, 3) := by decide +kernel
theorem d_M_node_9 : decode b_M_node 9 = .ok (.bipush (-3), 2) := by decide +kernel
theorem d_M_node_11 : decode b_M_node 11 = .ok (.ireturn, 1) := by decide +kernel
theorem d_M_node_12 : decode b_M_node 12 = .ok (.aload_n 0, 1) := by decide +kernel
theorem d_M_node_13 : decode b_M_node 13 = .ok (.dup, 1) := by decide +kernel
theorem d_M_node_14 : decode b_M_node 14 = .ok (.getfield 69, 3) := by decide +kernel
theorem d_M_node_17 : decode b_M_node 17 = .ok (.iconst 1, 1) := by decide +kernel
theorem d_M_node_18 : decode b_M_node 18 = .ok (.iadd, 1) := by decide +kernel
theorem d_M_node_19 : decode b_M_node 19 = .ok (.putfield 69, 3) := by decide +kernel
theorem d_M_node_22 : decode b_M_node 22 = .ok (.aload_n 0, 1) := by decide +kernel
theorem d_M_node_23 : decode b_M_node 23 = .ok (.getfield 69, 3) := by decide +kernel
theorem d_M_node_26 : decode b_M_node 26 = .ok (.iconst 1, 1) := by decide +kernel
theorem d_M_node_27 : decode b_M_node 27 = .ok (.isub, 1) := by decide +kernel
theorem d_M_node_28 : decode b_M_node 28 = .ok (.ireturn, 1) := by decide +kernel
theorem d_M_arc_0 : decode b_M_arc 0 = .ok (.aload_n 0, 1) := by decide +kernel
theorem d_M_arc_1 : decode b_M_arc 1 = .ok (.iload_n 1, 1) := by decide +kernel
theorem d_M_arc_2 : decode b_M_arc 2 = .ok (.iload_n 2, 1) := by decide +kernel
theorem d_M_arc_3 : decode b_M_arc 3 = .ok (.invokevirtual 91, 3) := by decide +kernel
theorem d_M_arc_6 : decode b_M_arc 6 = .ok (.ifCond .eq 26, 3) := by decide +kernel
theorem d_M_arc_9 : decode b_M_arc 9 = .ok (.iload_n 3, 1) := by decide +kernel
theorem d_M_arc_10 : decode b_M_arc 10 = .ok (.iconst 0, 1) := by decide +kernel
theorem d_M_arc_11 : decode b_M_arc 11 = .ok (.sipush 1000, 3) := by decide +kernel
theorem d_M_arc_14 : decode b_M_arc 14 = .ok (.invokestatic 83, 3) := by decide +kernel
theorem d_M_arc_17 : decode b_M_arc 17 = .ok (.ifCond .eq 15, 3) := by decide +kernel
theorem d_M_arc_20 : decode b_M_arc 20 = .ok (.iload 4, 2) := by decide +kernel
theorem d_M_arc_22 : decode b_M_arc 22 = .ok (.iconst 0, 1) := by decide +kernel
theorem d_M_arc_23 : decode b_M_arc 23 = .ok (.sipush 1000, 3) := by decide +kernel
theorem d_M_arc_26 : decode b_M_arc 26 = .ok (.invokestatic 83, 3) := by decide +kernel
theorem d_M_arc_29 : decode b_M_arc 29 = .ok (.ifCond .ne 6, 3) := by decide +kernel
theorem d_M_arc_32 : decode b_M_arc 32 = .ok (.bipush (-2), 2) := by decide +kernel
theorem d_M_arc_34 : decode b_M_arc 34 = .ok (.ireturn, 1) := by decide +kernel
theorem d_M_arc_35 : decode b_M_arc 35 = .ok (.aload_n 0, 1) := by decide +kernel
theorem d_M_arc_36 : decode b_M_arc 36 = .ok (.getfield 73, 3) := by decide +kernel
theorem d_M_arc_39 : decode b_M_arc 39 = .ok (.bipush 20, 2) := by decide +kernel
theorem d_M_arc_41 : decode b_M_arc 41 = .ok (.if_icmp .ne 6, 3) := by decide +kernel
theorem d_M_arc_44 : decode b_M_arc 44 = .ok (.bipush (-3), 2) := by decide +kernel
theorem d_M_arc_46 : decode b_M_arc 46 = .ok (.ireturn, 1) := by decide +kernel
theorem d_M_arc_47 : decode b_M_arc 47 = .ok (.aload_n 0, 1) := by decide +kernel
theorem d_M_arc_48 : decode b_M_arc 48 = .ok (.getfield 7, 3) := by decide +kernel
theorem d_M_arc_51 : decode b_M_arc 51 = .ok (.aload_n 0, 1) := by decide +kernel
theorem d_M_arc_52 : decode b_M_arc 52 = .ok (.getfield 73, 3) := by decide +kernel
theorem d_M_arc_55 : decode b_M_arc 55 = .ok (.iload_n 1, 1) := by decide +kernel
theorem d_M_arc_56 : decode b_M_arc 56 = .ok (.iastore, 1) := by decide +kernel
theorem d_M_arc_57 : decode b_M_arc 57 = .ok (.aload_n 0, 1) := by decide +kernel
theorem d_M_arc_58 : decode b_M_arc 58 = .ok (.getfield 13, 3) := by decide +kernel
theorem d_M_arc_61 : decode b_M_arc 61 = .ok (.aload_n 0, 1) := by decide +kernel
theorem d_M_arc_62 : decode b_M_arc 62 = .ok (.getfield 73, 3) := by decide +kernel
theorem d_M_arc_65 : decode b_M_arc 65 = .ok (.iload_n 2, 1) := by decide +kernel
theorem d_M_arc_66 : decode b_M_arc 66 = .ok (.iastore, 1) := by decide +kernel
theorem d_M_arc_67 : decode b_M_arc 67 = .ok (.aload_n 0, 1) := by decide +kernel
theorem d_M_arc_68 : decode b_M_arc 68 = .ok (.getfield 16, 3) := by decide +kernel
theorem d_M_arc_71 : decode b_M_arc 71 = .ok (.aload_n 0, 1) := by decide +kernel
theorem d_M_arc_72 : decode b_M_arc 72 = .ok (.getfield 73, 3) := by decide +kernel
theorem d_M_arc_75 : decode b_M_arc 75 = .ok (.iload_n 3, 1) := by decide +kernel
theorem d_M_arc_76 : decode b_M_arc 76 = .ok (.iastore, 1) := by decide +kernel
theorem d_M_arc_77 : decode b_M_arc 77 = .ok (.aload_n 0, 1) := by decide +kernel
theorem d_M_arc_78 : decode b_M_arc 78 = .ok (.getfield 19, 3) := by decide +kernel
theorem d_M_arc_81 : decode b_M_arc 81 = .ok (.aload_n 0, 1) := by decide +kernel
theorem d_M_arc_82 : decode b_M_arc 82 = .ok (.getfield 73, 3) := by decide +kernel
theorem d_M_arc_85 : decode b_M_arc 85 = .ok (.iload 4, 2) := by decide +kernel
theorem d_M_arc_87 : decode b_M_arc 87 = .ok (.iastore, 1) := by decide +kernel
theorem d_M_arc_88 : decode b_M_arc 88 = .ok (.aload_n 0, 1) := by decide +kernel
theorem d_M_arc_89 : decode b_M_arc 89 = .ok (.getfield 22, 3) := by decide +kernel
theorem d_M_arc_92 : decode b_M_arc 92 = .ok (.aload_n 0, 1) := by decide +kernel
theorem d_M_arc_93 : decode b_M_arc 93 = .ok (.getfield 73, 3) := by decide +kernel
theorem d_M_arc_96 : decode b_M_arc 96 = .ok (.iconst 0, 1) := by decide +kernel
theorem d_M_arc_97 : decode b_M_arc 97 = .ok (.bastore, 1) := by decide +kernel
theorem d_M_arc_98 : decode b_M_arc 98 = .ok (.aload_n 0, 1) := by decide +kernel
theorem d_M_arc_99 : decode b_M_arc 99 = .ok (.dup, 1) := by decide +kernel
theorem d_M_arc_100 : decode b_M_arc 100 = .ok (.getfield 73, 3) := by decide +kernel
theorem d_M_arc_103 : decode b_M_arc 103 = .ok (.iconst 1, 1) := by decide +kernel
theorem d_M_arc_104 : decode b_M_arc 104 = .ok (.iadd, 1) := by decide +kernel
theorem d_M_arc_105 : decode b_M_arc 105 = .ok (.putfield 73, 3) := by decide +kernel
theorem d_M_arc_108 : decode b_M_arc 108 = .ok (.aload_n 0, 1) := by decide +kernel
theorem d_M_arc_109 : decode b_M_arc 109 = .ok (.getfield 73, 3) := by decide +kernel
theorem d_M_arc_112 : decode b_M_arc 112 = .ok (.iconst 1, 1) := by decide +kernel
theorem d_M_arc_113 : decode b_M_arc 113 = .ok (.isub, 1) := by decide +kernel
theorem d_M_arc_114 : decode b_M_arc 114 = .ok (.ireturn, 1) := by decide +kernel
theorem d_M_change_0 : decode b_M_change 0 = .ok (.aload_n 0, 1) := by decide +kernel
theorem d_M_change_1 : decode b_M_change 1 = .ok (.iload_n 1, 1) := by decide +kernel
theorem d_M_change_2 : decode b_M_change 2 = .ok (.invokevirtual 95, 3) := by decide +kernel
theorem d_M_change_5 : decode b_M_change 5 = .ok (.ifCond .eq 25, 3) := by decide +kernel
theorem d_M_change_8 : decode b_M_change 8 = .ok (.iload_n 2, 1) := by decide +kernel
theorem d_M_change_9 : decode b_M_change 9 = .ok (.iconst 0, 1) := by decide +kernel
theorem d_M_change_10 : decode b_M_change 10 = .ok (.sipush 1000, 3) := by decide +kernel
theorem d_M_change_13 : decode b_M_change 13 = .ok (.invokestatic 83, 3) := by decide +kernel
theorem d_M_change_16 : decode b_M_change 16 = .ok (.ifCond .eq 14, 3) := by decide +kernel
theorem d_M_change_19 : decode b_M_change 19 = .ok (.iload_n 3, 1) := by decide +kernel
theorem d_M_change_20 : decode b_M_change 20 = .ok (.iconst 0, 1) := by decide +kernel
theorem d_M_change_21 : decode b_M_change 21 = .ok (.sipush 1000, 3) := by decide +kernel
theorem d_M_change_24 : decode b_M_change 24 = .ok (.invokestatic 83, 3) := by decide +kernel
theorem d_M_change_27 : decode b_M_change 27 = .ok (.ifCond .ne 6, 3) := by decide +kernel
theorem d_M_change_30 : decode b_M_change 30 = .ok (.bipush (-2), 2) := by decide +kernel
theorem d_M_change_32 : decode b_M_change 32 = .ok (.ireturn, 1) := by decide +kernel
theorem d_M_change_33 : decode b_M_change 33 = .ok (.aload_n 0, 1) := by decide +kernel
theorem d_M_change_34 : decode b_M_change 34 = .ok (.getfield 16, 3) := by decide +kernel
theorem d_M_change_37 : decode b_M_change 37 = .ok (.iload_n 1, 1) := by decide +kernel
theorem d_M_change_38 : decode b_M_change 38 = .ok (.iaload, 1) := by decide +kernel
theorem d_M_change_39 : decode b_M_change 39 = .ok (.istore 4, 2) := by decide +kernel
theorem d_M_change_41 : decode b_M_change 41 = .ok (.aload_n 0, 1) := by decide +kernel
theorem d_M_change_42 : decode b_M_change 42 = .ok (.getfield 16, 3) := by decide +kernel
theorem d_M_change_45 : decode b_M_change 45 = .ok (.iload_n 1, 1) := by decide +kernel
theorem d_M_change_46 : decode b_M_change 46 = .ok (.iload_n 2, 1) := by decide +kernel
theorem d_M_change_47 : decode b_M_change 47 = .ok (.iastore, 1) := by decide +kernel
theorem d_M_change_48 : decode b_M_change 48 = .ok (.aload_n 0, 1) := by decide +kernel
theorem d_M_change_49 : decode b_M_change 49 = .ok (.getfield 19, 3) := by decide +kernel
theorem d_M_change_52 : decode b_M_change 52 = .ok (.iload_n 1, 1) := by decide +kernel
theorem d_M_change_53 : decode b_M_change 53 = .ok (.iload_n 3, 1) := by decide +kernel
theorem d_M_change_54 : decode b_M_change 54 = .ok (.iastore, 1) := by decide +kernel
theorem d_M_change_55 : decode b_M_change 55 = .ok (.iload 4, 2) := by decide +kernel
theorem d_M_change_57 : decode b_M_change 57 = .ok (.ireturn, 1) := by decide +kernel
theorem d_M_shut_0 : decode b_M_shut 0 = .ok (.aload_n 0, 1) := by decide +kernel
theorem d_M_shut_1 : decode b_M_shut 1 = .ok (.iload_n 1, 1) := by decide +kernel
theorem d_M_shut_2 : decode b_M_shut 2 = .ok (.invokevirtual 95, 3) := by decide +kernel
theorem d_M_shut_5 : decode b_M_shut 5 = .ok (.ifCond .ne 6, 3) := by decide +kernel
theorem d_M_shut_8 : decode b_M_shut 8 = .ok (.bipush (-2), 2) := by decide +kernel
theorem d_M_shut_10 : decode b_M_shut 10 = .ok (.ireturn, 1) := by decide +kernel
theorem d_M_shut_11 : decode b_M_shut 11 = .ok (.aload_n 0, 1) := by decide +kernel
theorem d_M_shut_12 : decode b_M_shut 12 = .ok (.getfield 22, 3) := by decide +kernel
theorem d_M_shut_15 : decode b_M_shut 15 = .ok (.iload_n 1, 1) := by decide +kernel
theorem d_M_shut_16 : decode b_M_shut 16 = .ok (.baload, 1) := by decide +kernel
theorem d_M_shut_17 : decode b_M_shut 17 = .ok (.ifCond .eq 7, 3) := by decide +kernel
theorem d_M_shut_20 : decode b_M_shut 20 = .ok (.iconst 1, 1) := by decide +kernel
theorem d_M_shut_21 : decode b_M_shut 21 = .ok (.goto 4, 3) := by decide +kernel
theorem d_M_shut_24 : decode b_M_shut 24 = .ok (.iconst 0, 1) := by decide +kernel
theorem d_M_shut_25 : decode b_M_shut 25 = .ok (.istore_n 3, 1) := by decide +kernel
theorem d_M_shut_26 : decode b_M_shut 26 = .ok (.aload_n 0, 1) := by decide +kernel
theorem d_M_shut_27 : decode b_M_shut 27 = .ok (.getfield 22, 3) := by decide +kernel
theorem d_M_shut_30 : decode b_M_shut 30 = .ok (.iload_n 1, 1) := by decide +kernel
theorem d_M_shut_31 : decode b_M_shut 31 = .ok (.iload_n 2, 1) := by decide +kernel
theorem d_M_shut_32 : decode b_M_shut 32 = .ok (.bastore, 1) := by decide +kernel
theorem d_M_shut_33 : decode b_M_shut 33 = .ok (.iload_n 3, 1) := by decide +kernel
theorem d_M_shut_34 : decode b_M_shut 34 = .ok (.ireturn, 1) := by decide +kernel
theorem d_M_find_0 : decode b_M_find 0 = .ok (.aload_n 0, 1) := by decide +kernel
theorem d_M_find_1 : decode b_M_find 1 = .ok (.iconst 0, 1) := by decide +kernel
theorem d_M_find_2 : decode b_M_find 2 = .ok (.putfield 98, 3) := by decide +kernel
theorem d_M_find_5 : decode b_M_find 5 = .ok (.iconst 0, 1) := by decide +kernel
theorem d_M_find_6 : decode b_M_find 6 = .ok (.istore_n 3, 1) := by decide +kernel
theorem d_M_find_7 : decode b_M_find 7 = .ok (.iconst 1, 1) := by decide +kernel
theorem d_M_find_8 : decode b_M_find 8 = .ok (.iload_n 1, 1) := by decide +kernel
theorem d_M_find_9 : decode b_M_find 9 = .ok (.ishl, 1) := by decide +kernel
theorem d_M_find_10 : decode b_M_find 10 = .ok (.istore 4, 2) := by decide +kernel
theorem d_M_find_12 : decode b_M_find 12 = .ok (.aload_n 0, 1) := by decide +kernel
theorem d_M_find_13 : decode b_M_find 13 = .ok (.getfield 54, 3) := by decide +kernel
theorem d_M_find_16 : decode b_M_find 16 = .ok (.iconst 0, 1) := by decide +kernel
theorem d_M_find_17 : decode b_M_find 17 = .ok (.iload_n 1, 1) := by decide +kernel
theorem d_M_find_18 : decode b_M_find 18 = .ok (.iastore, 1) := by decide +kernel
theorem d_M_find_19 : decode b_M_find 19 = .ok (.aload_n 0, 1) := by decide +kernel
theorem d_M_find_20 : decode b_M_find 20 = .ok (.getfield 51, 3) := by decide +kernel
theorem d_M_find_23 : decode b_M_find 23 = .ok (.iconst 0, 1) := by decide +kernel
theorem d_M_find_24 : decode b_M_find 24 = .ok (.iconst 0, 1) := by decide +kernel
theorem d_M_find_25 : decode b_M_find 25 = .ok (.iastore, 1) := by decide +kernel
theorem d_M_find_26 : decode b_M_find 26 = .ok (.iload_n 3, 1) := by decide +kernel
theorem d_M_find_27 : decode b_M_find 27 = .ok (.ifCond .lt 181, 3) := by decide +kernel
theorem d_M_find_30 : decode b_M_find 30 = .ok (.aload_n 0, 1) := by decide +kernel
theorem d_M_find_31 : decode b_M_find 31 = .ok (.getfield 51, 3) := by decide +kernel
theorem d_M_find_34 : decode b_M_find 34 = .ok (.iload_n 3, 1) := by decide +kernel
theorem d_M_find_35 : decode b_M_find 35 = .ok (.iaload, 1) := by decide +kernel
theorem d_M_find_36 : decode b_M_find 36 = .ok (.istore 5, 2) := by decide +kernel
theorem d_M_find_38 : decode b_M_find 38 = .ok (.iload 5, 2) := by decide +kernel
theorem d_M_find_40 : decode b_M_find 40 = .ok (.aload_n 0, 1) := by decide +kernel
theorem d_M_find_41 : decode b_M_find 41 = .ok (.getfield 73, 3) := by decide +kernel
theorem d_M_find_44 : decode b_M_find 44 = .ok (.if_icmp .ne 38, 3) := by decide +kernel
theorem d_M_find_47 : decode b_M_find 47 = .ok (.iload 4, 2) := by decide +kernel
theorem d_M_find_49 : decode b_M_find 49 = .ok (.iconst 1, 1) := by decide +kernel
theorem d_M_find_50 : decode b_M_find 50 = .ok (.aload_n 0, 1) := by decide +kernel
theorem d_M_find_51 : decode b_M_find 51 = .ok (.getfield 54, 3) := by decide +kernel
theorem d_M_find_54 : decode b_M_find 54 = .ok (.iload_n 3, 1) := by decide +kernel
theorem d_M_find_55 : decode b_M_find 55 = .ok (.iaload, 1) := by decide +kernel
theorem d_M_find_56 : decode b_M_find 56 = .ok (.ishl, 1) := by decide +kernel
theorem d_M_find_57 : decode b_M_find 57 = .ok (.iconst (-1), 1) := by decide +kernel
theorem d_M_find_58 : decode b_M_find 58 = .ok (.ixor, 1) := by decide +kernel
theorem d_M_find_59 : decode b_M_find 59 = .ok (.iand, 1) := by decide +kernel
theorem d_M_find_60 : decode b_M_find 60 = .ok (.istore 4, 2) := by decide +kernel
theorem d_M_find_62 : decode b_M_find 62 = .ok (.iinc 3 (-1), 3) := by decide +kernel
theorem d_M_find_65 : decode b_M_find 65 = .ok (.iload_n 3, 1) := by decide +kernel
theorem d_M_find_66 : decode b_M_find 66 = .ok (.ifCond .lt 139, 3) := by decide +kernel
theorem d_M_find_69 : decode b_M_find 69 = .ok (.aload_n 0, 1) := by decide +kernel
theorem d_M_find_70 : decode b_M_find 70 = .ok (.getfield 51, 3) := by decide +kernel
theorem d_M_find_73 : decode b_M_find 73 = .ok (.iload_n 3, 1) := by decide +kernel
theorem d_M_find_74 : decode b_M_find 74 = .ok (.dup2, 1) := by decide +kernel
theorem d_M_find_75 : decode b_M_find 75 = .ok (.iaload, 1) := by decide +kernel
theorem d_M_find_76 : decode b_M_find 76 = .ok (.iconst 1, 1) := by decide +kernel
theorem d_M_find_77 : decode b_M_find 77 = .ok (.iadd, 1) := by decide +kernel
theorem d_M_find_78 : decode b_M_find 78 = .ok (.iastore, 1) := by decide +kernel
theorem d_M_find_79 : decode b_M_find 79 = .ok (.goto 126, 3) := by decide +kernel
theorem d_M_find_82 : decode b_M_find 82 = .ok (.aload_n 0, 1) := by decide +kernel
theorem d_M_find_83 : decode b_M_find 83 = .ok (.getfield 22, 3) := by decide +kernel
theorem d_M_find_86 : decode b_M_find 86 = .ok (.iload 5, 2) := by decide +kernel
theorem d_M_find_88 : decode b_M_find 88 = .ok (.baload, 1) := by decide +kernel
theorem d_M_find_89 : decode b_M_find 89 = .ok (.ifCond .ne 35, 3) := by decide +kernel
theorem d_M_find_92 : decode b_M_find 92 = .ok (.aload_n 0, 1) := by decide +kernel
theorem d_M_find_93 : decode b_M_find 93 = .ok (.getfield 7, 3) := by decide +kernel
theorem d_M_find_96 : decode b_M_find 96 = .ok (.iload 5, 2) := by decide +kernel
theorem d_M_find_98 : decode b_M_find 98 = .ok (.iaload, 1) := by decide +kernel
theorem d_M_find_99 : decode b_M_find 99 = .ok (.aload_n 0, 1) := by decide +kernel
theorem d_M_find_100 : decode b_M_find 100 = .ok (.getfield 54, 3) := by decide +kernel
theorem d_M_find_103 : decode b_M_find 103 = .ok (.iload_n 3, 1) := by decide +kernel
theorem d_M_find_104 : decode b_M_find 104 = .ok (.iaload, 1) := by decide +kernel
theorem d_M_find_105 : decode b_M_find 105 = .ok (.if_icmp .ne 19, 3) := by decide +kernel
theorem d_M_find_108 : decode b_M_find 108 = .ok (.iload 4, 2) := by decide +kernel
theorem d_M_find_110 : decode b_M_find 110 = .ok (.aload_n 0, 1) := by decide +kernel
theorem d_M_find_111 : decode b_M_find 111 = .ok (.getfield 13, 3) := by decide +kernel
theorem d_M_find_114 : decode b_M_find 114 = .ok (.iload 5, 2) := by decide +kernel
theorem d_M_find_116 : decode b_M_find 116 = .ok (.iaload, 1) := by decide +kernel
theorem d_M_find_117 : decode b_M_find 117 = .ok (.ishr, 1) := by decide +kernel
theorem d_M_find_118 : decode b_M_find 118 = .ok (.iconst 1, 1) := by decide +kernel
theorem d_M_find_119 : decode b_M_find 119 = .ok (.iand, 1) := by decide +kernel
theorem d_M_find_120 : decode b_M_find 120 = .ok (.iconst 1, 1) := by decide +kernel
theorem d_M_find_121 : decode b_M_find 121 = .ok (.if_icmp .ne 16, 3) := by decide +kernel
theorem d_M_find_124 : decode b_M_find 124 = .ok (.aload_n 0, 1) := by decide +kernel
theorem d_M_find_125 : decode b_M_find 125 = .ok (.getfield 51, 3) := by decide +kernel
theorem d_M_find_128 : decode b_M_find 128 = .ok (.iload_n 3, 1) := by decide +kernel
theorem d_M_find_129 : decode b_M_find 129 = .ok (.dup2, 1) := by decide +kernel
theorem d_M_find_130 : decode b_M_find 130 = .ok (.iaload, 1) := by decide +kernel
theorem d_M_find_131 : decode b_M_find 131 = .ok (.iconst 1, 1) := by decide +kernel
theorem d_M_find_132 : decode b_M_find 132 = .ok (.iadd, 1) := by decide +kernel
theorem d_M_find_133 : decode b_M_find 133 = .ok (.iastore, 1) := by decide +kernel
theorem d_M_find_134 : decode b_M_find 134 = .ok (.goto 71, 3) := by decide +kernel
theorem d_M_find_137 : decode b_M_find 137 = .ok (.aload_n 0, 1) := by decide +kernel
theorem d_M_find_138 : decode b_M_find 138 = .ok (.getfield 13, 3) := by decide +kernel
theorem d_M_find_141 : decode b_M_find 141 = .ok (.iload 5, 2) := by decide +kernel
theorem d_M_find_143 : decode b_M_find 143 = .ok (.iaload, 1) := by decide +kernel
theorem d_M_find_144 : decode b_M_find 144 = .ok (.iload_n 2, 1) := by decide +kernel
theorem d_M_find_145 : decode b_M_find 145 = .ok (.if_icmp .ne 23, 3) := by decide +kernel
theorem d_M_find_148 : decode b_M_find 148 = .ok (.aload_n 0, 1) := by decide +kernel
theorem d_M_find_149 : decode b_M_find 149 = .ok (.iload_n 3, 1) := by decide +kernel
theorem d_M_find_150 : decode b_M_find 150 = .ok (.iconst 1, 1) := by decide +kernel
theorem d_M_find_151 : decode b_M_find 151 = .ok (.iadd, 1) := by decide +kernel
theorem d_M_find_152 : decode b_M_find 152 = .ok (.invokevirtual 101, 3) := by decide +kernel
theorem d_M_find_155 : decode b_M_find 155 = .ok (.aload_n 0, 1) := by decide +kernel
theorem d_M_find_156 : decode b_M_find 156 = .ok (.getfield 51, 3) := by decide +kernel
theorem d_M_find_159 : decode b_M_find 159 = .ok (.iload_n 3, 1) := by decide +kernel
theorem d_M_find_160 : decode b_M_find 160 = .ok (.dup2, 1) := by decide +kernel
theorem d_M_find_161 : decode b_M_find 161 = .ok (.iaload, 1) := by decide +kernel
theorem d_M_find_162 : decode b_M_find 162 = .ok (.iconst 1, 1) := by decide +kernel
theorem d_M_find_163 : decode b_M_find 163 = .ok (.iadd, 1) := by decide +kernel
theorem d_M_find_164 : decode b_M_find 164 = .ok (.iastore, 1) := by decide +kernel
theorem d_M_find_165 : decode b_M_find 165 = .ok (.goto 40, 3) := by decide +kernel
theorem d_M_find_168 : decode b_M_find 168 = .ok (.iinc 3 1, 3) := by decide +kernel
theorem d_M_find_171 : decode b_M_find 171 = .ok (.aload_n 0, 1) := by decide +kernel
theorem d_M_find_172 : decode b_M_find 172 = .ok (.getfield 54, 3) := by decide +kernel
theorem d_M_find_175 : decode b_M_find 175 = .ok (.iload_n 3, 1) := by decide +kernel
theorem d_M_find_176 : decode b_M_find 176 = .ok (.aload_n 0, 1) := by decide +kernel
theorem d_M_find_177 : decode b_M_find 177 = .ok (.getfield 13, 3) := by decide +kernel
theorem d_M_find_180 : decode b_M_find 180 = .ok (.iload 5, 2) := by decide +kernel
theorem d_M_find_182 : decode b_M_find 182 = .ok (.iaload, 1) := by decide +kernel
theorem d_M_find_183 : decode b_M_find 183 = .ok (.iastore, 1) := by decide +kernel
theorem d_M_find_184 : decode b_M_find 184 = .ok (.iload 4, 2) := by decide +kernel
theorem d_M_find_186 : decode b_M_find 186 = .ok (.iconst 1, 1) := by decide +kernel
theorem d_M_find_187 : decode b_M_find 187 = .ok (.aload_n 0, 1) := by decide +kernel
theorem d_M_find_188 : decode b_M_find 188 = .ok (.getfield 13, 3) := by decide +kernel
theorem d_M_find_191 : decode b_M_find 191 = .ok (.iload 5, 2) := by decide +kernel
theorem d_M_find_193 : decode b_M_find 193 = .ok (.iaload, 1) := by decide +kernel
theorem d_M_find_194 : decode b_M_find 194 = .ok (.ishl, 1) := by decide +kernel
theorem d_M_find_195 : decode b_M_find 195 = .ok (.ior, 1) := by decide +kernel
theorem d_M_find_196 : decode b_M_find 196 = .ok (.istore 4, 2) := by decide +kernel
theorem d_M_find_198 : decode b_M_find 198 = .ok (.aload_n 0, 1) := by decide +kernel
theorem d_M_find_199 : decode b_M_find 199 = .ok (.getfield 51, 3) := by decide +kernel
theorem d_M_find_202 : decode b_M_find 202 = .ok (.iload_n 3, 1) := by decide +kernel
theorem d_M_find_203 : decode b_M_find 203 = .ok (.iconst 0, 1) := by decide +kernel
theorem d_M_find_204 : decode b_M_find 204 = .ok (.iastore, 1) := by decide +kernel
theorem d_M_find_205 : decode b_M_find 205 = .ok (.goto (-179), 3) := by decide +kernel
theorem d_M_find_208 : decode b_M_find 208 = .ok (.return_, 1) := by decide +kernel
theorem d_M_keep_0 : decode b_M_keep 0 = .ok (.iconst 0, 1) := by decide +kernel
theorem d_M_keep_1 : decode b_M_keep 1 = .ok (.istore_n 2, 1) := by decide +kernel
theorem d_M_keep_2 : decode b_M_keep 2 = .ok (.iconst 0, 1) := by decide +kernel
theorem d_M_keep_3 : decode b_M_keep 3 = .ok (.istore_n 3, 1) := by decide +kernel
theorem d_M_keep_4 : decode b_M_keep 4 = .ok (.lconst 0, 1) := by decide +kernel
theorem d_M_keep_5 : decode b_M_keep 5 = .ok (.lstore 4, 2) := by decide +kernel
theorem d_M_keep_7 : decode b_M_keep 7 = .ok (.iconst 0, 1) := by decide +kernel
theorem d_M_keep_8 : decode b_M_keep 8 = .ok (.istore 6, 2) := by decide +kernel
theorem d_M_keep_10 : decode b_M_keep 10 = .ok (.iconst 0, 1) := by decide +kernel
theorem d_M_keep_11 : decode b_M_keep 11 = .ok (.istore 7, 2) := by decide +kernel
theorem d_M_keep_13 : decode b_M_keep 13 = .ok (.iconst 0, 1) := by decide +kernel
theorem d_M_keep_14 : decode b_M_keep 14 = .ok (.istore 8, 2) := by decide +kernel
theorem d_M_keep_16 : decode b_M_keep 16 = .ok (.iload 8, 2) := by decide +kernel
theorem d_M_keep_18 : decode b_M_keep 18 = .ok (.iload_n 1, 1) := by decide +kernel
theorem d_M_keep_19 : decode b_M_keep 19 = .ok (.if_icmp .ge 80, 3) := by decide +kernel
theorem d_M_keep_22 : decode b_M_keep 22 = .ok (.aload_n 0, 1) := by decide +kernel
theorem d_M_keep_23 : decode b_M_keep 23 = .ok (.getfield 51, 3) := by decide +kernel
theorem d_M_keep_26 : decode b_M_keep 26 = .ok (.iload 8, 2) := by decide +kernel
theorem d_M_keep_28 : decode b_M_keep 28 = .ok (.iaload, 1) := by decide +kernel
theorem d_M_keep_29 : decode b_M_keep 29 = .ok (.istore 9, 2) := by decide +kernel
theorem d_M_keep_31 : decode b_M_keep 31 = .ok (.iload_n 2, 1) := by decide +kernel
theorem d_M_keep_32 : decode b_M_keep 32 = .ok (.aload_n 0, 1) := by decide +kernel
theorem d_M_keep_33 : decode b_M_keep 33 = .ok (.getfield 16, 3) := by decide +kernel
theorem d_M_keep_36 : decode b_M_keep 36 = .ok (.iload 9, 2) := by decide +kernel
theorem d_M_keep_38 : decode b_M_keep 38 = .ok (.iaload, 1) := by decide +kernel
theorem d_M_keep_39 : decode b_M_keep 39 = .ok (.iadd, 1) := by decide +kernel
theorem d_M_keep_40 : decode b_M_keep 40 = .ok (.istore_n 2, 1) := by decide +kernel
theorem d_M_keep_41 : decode b_M_keep 41 = .ok (.iload_n 3, 1) := by decide +kernel
theorem d_M_keep_42 : decode b_M_keep 42 = .ok (.aload_n 0, 1) := by decide +kernel
theorem d_M_keep_43 : decode b_M_keep 43 = .ok (.getfield 19, 3) := by decide +kernel
theorem d_M_keep_46 : decode b_M_keep 46 = .ok (.iload 9, 2) := by decide +kernel
theorem d_M_keep_48 : decode b_M_keep 48 = .ok (.iaload, 1) := by decide +kernel
theorem d_M_keep_49 : decode b_M_keep 49 = .ok (.iadd, 1) := by decide +kernel
theorem d_M_keep_50 : decode b_M_keep 50 = .ok (.istore_n 3, 1) := by decide +kernel
theorem d_M_keep_51 : decode b_M_keep 51 = .ok (.lload 4, 2) := by decide +kernel
theorem d_M_keep_53 : decode b_M_keep 53 = .ok (.iconst 5, 1) := by decide +kernel
theorem d_M_keep_54 : decode b_M_keep 54 = .ok (.lshl, 1) := by decide +kernel
theorem d_M_keep_55 : decode b_M_keep 55 = .ok (.iload 9, 2) := by decide +kernel
theorem d_M_keep_57 : decode b_M_keep 57 = .ok (.i2l, 1) := by decide +kernel
theorem d_M_keep_58 : decode b_M_keep 58 = .ok (.lor, 1) := by decide +kernel
theorem d_M_keep_59 : decode b_M_keep 59 = .ok (.lstore 4, 2) := by decide +kernel
theorem d_M_keep_61 : decode b_M_keep 61 = .ok (.iload 6, 2) := by decide +kernel
theorem d_M_keep_63 : decode b_M_keep 63 = .ok (.iconst 1, 1) := by decide +kernel
theorem d_M_keep_64 : decode b_M_keep 64 = .ok (.iload 9, 2) := by decide +kernel
theorem d_M_keep_66 : decode b_M_keep 66 = .ok (.ishl, 1) := by decide +kernel
theorem d_M_keep_67 : decode b_M_keep 67 = .ok (.ior, 1) := by decide +kernel
theorem d_M_keep_68 : decode b_M_keep 68 = .ok (.istore 6, 2) := by decide +kernel
theorem d_M_keep_70 : decode b_M_keep 70 = .ok (.iload 7, 2) := by decide +kernel
theorem d_M_keep_72 : decode b_M_keep 72 = .ok (.iload 8, 2) := by decide +kernel
theorem d_M_keep_74 : decode b_M_keep 74 = .ok (.ifCond .le 15, 3) := by decide +kernel
theorem d_M_keep_77 : decode b_M_keep 77 = .ok (.iconst 1, 1) := by decide +kernel
theorem d_M_keep_78 : decode b_M_keep 78 = .ok (.aload_n 0, 1) := by decide +kernel
theorem d_M_keep_79 : decode b_M_keep 79 = .ok (.getfield 54, 3) := by decide +kernel
theorem d_M_keep_82 : decode b_M_keep 82 = .ok (.iload 8, 2) := by decide +kernel
theorem d_M_keep_84 : decode b_M_keep 84 = .ok (.iaload, 1) := by decide +kernel
theorem d_M_keep_85 : decode b_M_keep 85 = .ok (.ishl, 1) := by decide +kernel
theorem d_M_keep_86 : decode b_M_keep 86 = .ok (.goto 4, 3) := by decide +kernel
theorem d_M_keep_89 : decode b_M_keep 89 = .ok (.iconst 0, 1) := by decide +kernel
theorem d_M_keep_90 : decode b_M_keep 90 = .ok (.ior, 1) := by decide +kernel
theorem d_M_keep_91 : decode b_M_keep 91 = .ok (.istore 7, 2) := by decide +kernel
theorem d_M_keep_93 : decode b_M_keep 93 = .ok (.iinc 8 1, 3) := by decide +kernel
theorem d_M_keep_96 : decode b_M_keep 96 = .ok (.goto (-80), 3) := by decide +kernel
theorem d_M_keep_99 : decode b_M_keep 99 = .ok (.aload_n 0, 1) := by decide +kernel
theorem d_M_keep_100 : decode b_M_keep 100 = .ok (.getfield 98, 3) := by decide +kernel
theorem d_M_keep_103 : decode b_M_keep 103 = .ok (.istore 8, 2) := by decide +kernel
theorem d_M_keep_105 : decode b_M_keep 105 = .ok (.iload 8, 2) := by decide +kernel
theorem d_M_keep_107 : decode b_M_keep 107 = .ok (.ifCond .le 120, 3) := by decide +kernel
theorem d_M_keep_110 : decode b_M_keep 110 = .ok (.aload_n 0, 1) := by decide +kernel
theorem d_M_keep_111 : decode b_M_keep 111 = .ok (.iload_n 2, 1) := by decide +kernel
theorem d_M_keep_112 : decode b_M_keep 112 = .ok (.iload_n 1, 1) := by decide +kernel
theorem d_M_keep_113 : decode b_M_keep 113 = .ok (.lload 4, 2) := by decide +kernel
theorem d_M_keep_115 : decode b_M_keep 115 = .ok (.iload 8, 2) := by decide +kernel
theorem d_M_keep_117 : decode b_M_keep 117 = .ok (.iconst 1, 1) := by decide +kernel
theorem d_M_keep_118 : decode b_M_keep 118 = .ok (.isub, 1) := by decide +kernel
theorem d_M_keep_119 : decode b_M_keep 119 = .ok (.invokevirtual 105, 3) := by decide +kernel
theorem d_M_keep_122 : decode b_M_keep 122 = .ok (.ifCond .eq 105, 3) := by decide +kernel
theorem d_M_keep_125 : decode b_M_keep 125 = .ok (.aload_n 0, 1) := by decide +kernel
theorem d_M_keep_126 : decode b_M_keep 126 = .ok (.getfield 26, 3) := by decide +kernel
theorem d_M_keep_129 : decode b_M_keep 129 = .ok (.iload 8, 2) := by decide +kernel
theorem d_M_keep_131 : decode b_M_keep 131 = .ok (.aload_n 0, 1) := by decide +kernel
theorem d_M_keep_132 : decode b_M_keep 132 = .ok (.getfield 26, 3) := by decide +kernel
theorem d_M_keep_135 : decode b_M_keep 135 = .ok (.iload 8, 2) := by decide +kernel
theorem d_M_keep_137 : decode b_M_keep 137 = .ok (.iconst 1, 1) := by decide +kernel
theorem d_M_keep_138 : decode b_M_keep 138 = .ok (.isub, 1) := by decide +kernel
theorem d_M_keep_139 : decode b_M_keep 139 = .ok (.iaload, 1) := by decide +kernel
theorem d_M_keep_140 : decode b_M_keep 140 = .ok (.iastore, 1) := by decide +kernel
theorem d_M_keep_141 : decode b_M_keep 141 = .ok (.aload_n 0, 1) := by decide +kernel
theorem d_M_keep_142 : decode b_M_keep 142 = .ok (.getfield 29, 3) := by decide +kernel
theorem d_M_keep_145 : decode b_M_keep 145 = .ok (.iload 8, 2) := by decide +kernel
theorem d_M_keep_147 : decode b_M_keep 147 = .ok (.aload_n 0, 1) := by decide +kernel
theorem d_M_keep_148 : decode b_M_keep 148 = .ok (.getfield 29, 3) := by decide +kernel
theorem d_M_keep_151 : decode b_M_keep 151 = .ok (.iload 8, 2) := by decide +kernel
theorem d_M_keep_153 : decode b_M_keep 153 = .ok (.iconst 1, 1) := by decide +kernel
theorem d_M_keep_154 : decode b_M_keep 154 = .ok (.isub, 1) := by decide +kernel
theorem d_M_keep_155 : decode b_M_keep 155 = .ok (.iaload, 1) := by decide +kernel
theorem d_M_keep_156 : decode b_M_keep 156 = .ok (.iastore, 1) := by decide +kernel
theorem d_M_keep_157 : decode b_M_keep 157 = .ok (.aload_n 0, 1) := by decide +kernel
theorem d_M_keep_158 : decode b_M_keep 158 = .ok (.getfield 32, 3) := by decide +kernel
theorem d_M_keep_161 : decode b_M_keep 161 = .ok (.iload 8, 2) := by decide +kernel
theorem d_M_keep_163 : decode b_M_keep 163 = .ok (.aload_n 0, 1) := by decide +kernel
theorem d_M_keep_164 : decode b_M_keep 164 = .ok (.getfield 32, 3) := by decide +kernel
theorem d_M_keep_167 : decode b_M_keep 167 = .ok (.iload 8, 2) := by decide +kernel
theorem d_M_keep_169 : decode b_M_keep 169 = .ok (.iconst 1, 1) := by decide +kernel
theorem d_M_keep_170 : decode b_M_keep 170 = .ok (.isub, 1) := by decide +kernel
theorem d_M_keep_171 : decode b_M_keep 171 = .ok (.laload, 1) := by decide +kernel
theorem d_M_keep_172 : decode b_M_keep 172 = .ok (.lastore, 1) := by decide +kernel
theorem d_M_keep_173 : decode b_M_keep 173 = .ok (.aload_n 0, 1) := by decide +kernel
theorem d_M_keep_174 : decode b_M_keep 174 = .ok (.getfield 36, 3) := by decide +kernel
theorem d_M_keep_177 : decode b_M_keep 177 = .ok (.iload 8, 2) := by decide +kernel
theorem d_M_keep_179 : decode b_M_keep 179 = .ok (.aload_n 0, 1) := by decide +kernel
theorem d_M_keep_180 : decode b_M_keep 180 = .ok (.getfield 36, 3) := by decide +kernel
theorem d_M_keep_183 : decode b_M_keep 183 = .ok (.iload 8, 2) := by decide +kernel
theorem d_M_keep_185 : decode b_M_keep 185 = .ok (.iconst 1, 1) := by decide +kernel
theorem d_M_keep_186 : decode b_M_keep 186 = .ok (.isub, 1) := by decide +kernel
theorem d_M_keep_187 : decode b_M_keep 187 = .ok (.iaload, 1) := by decide +kernel
theorem d_M_keep_188 : decode b_M_keep 188 = .ok (.iastore, 1) := by decide +kernel
theorem d_M_keep_189 : decode b_M_keep 189 = .ok (.aload_n 0, 1) := by decide +kernel
theorem d_M_keep_190 : decode b_M_keep 190 = .ok (.getfield 39, 3) := by decide +kernel
theorem d_M_keep_193 : decode b_M_keep 193 = .ok (.iload 8, 2) := by decide +kernel
theorem d_M_keep_195 : decode b_M_keep 195 = .ok (.aload_n 0, 1) := by decide +kernel
theorem d_M_keep_196 : decode b_M_keep 196 = .ok (.getfield 39, 3) := by decide +kernel
theorem d_M_keep_199 : decode b_M_keep 199 = .ok (.iload 8, 2) := by decide +kernel
theorem d_M_keep_201 : decode b_M_keep 201 = .ok (.iconst 1, 1) := by decide +kernel
theorem d_M_keep_202 : decode b_M_keep 202 = .ok (.isub, 1) := by decide +kernel
theorem d_M_keep_203 : decode b_M_keep 203 = .ok (.iaload, 1) := by decide +kernel
theorem d_M_keep_204 : decode b_M_keep 204 = .ok (.iastore, 1) := by decide +kernel
theorem d_M_keep_205 : decode b_M_keep 205 = .ok (.aload_n 0, 1) := by decide +kernel
theorem d_M_keep_206 : decode b_M_keep 206 = .ok (.getfield 42, 3) := by decide +kernel
theorem d_M_keep_209 : decode b_M_keep 209 = .ok (.iload 8, 2) := by decide +kernel
theorem d_M_keep_211 : decode b_M_keep 211 = .ok (.aload_n 0, 1) := by decide +kernel
theorem d_M_keep_212 : decode b_M_keep 212 = .ok (.getfield 42, 3) := by decide +kernel
theorem d_M_keep_215 : decode b_M_keep 215 = .ok (.iload 8, 2) := by decide +kernel
theorem d_M_keep_217 : decode b_M_keep 217 = .ok (.iconst 1, 1) := by decide +kernel
theorem d_M_keep_218 : decode b_M_keep 218 = .ok (.isub, 1) := by decide +kernel
theorem d_M_keep_219 : decode b_M_keep 219 = .ok (.iaload, 1) := by decide +kernel
theorem d_M_keep_220 : decode b_M_keep 220 = .ok (.iastore, 1) := by decide +kernel
theorem d_M_keep_221 : decode b_M_keep 221 = .ok (.iinc 8 (-1), 3) := by decide +kernel
theorem d_M_keep_224 : decode b_M_keep 224 = .ok (.goto (-119), 3) := by decide +kernel
theorem d_M_keep_227 : decode b_M_keep 227 = .ok (.aload_n 0, 1) := by decide +kernel
theorem d_M_keep_228 : decode b_M_keep 228 = .ok (.getfield 26, 3) := by decide +kernel
theorem d_M_keep_231 : decode b_M_keep 231 = .ok (.iload 8, 2) := by decide +kernel
theorem d_M_keep_233 : decode b_M_keep 233 = .ok (.iload_n 2, 1) := by decide +kernel
theorem d_M_keep_234 : decode b_M_keep 234 = .ok (.iastore, 1) := by decide +kernel
theorem d_M_keep_235 : decode b_M_keep 235 = .ok (.aload_n 0, 1) := by decide +kernel
theorem d_M_keep_236 : decode b_M_keep 236 = .ok (.getfield 29, 3) := by decide +kernel
theorem d_M_keep_239 : decode b_M_keep 239 = .ok (.iload 8, 2) := by decide +kernel
theorem d_M_keep_241 : decode b_M_keep 241 = .ok (.iload_n 3, 1) := by decide +kernel
theorem d_M_keep_242 : decode b_M_keep 242 = .ok (.iastore, 1) := by decide +kernel
theorem d_M_keep_243 : decode b_M_keep 243 = .ok (.aload_n 0, 1) := by decide +kernel
theorem d_M_keep_244 : decode b_M_keep 244 = .ok (.getfield 32, 3) := by decide +kernel
theorem d_M_keep_247 : decode b_M_keep 247 = .ok (.iload 8, 2) := by decide +kernel
theorem d_M_keep_249 : decode b_M_keep 249 = .ok (.lload 4, 2) := by decide +kernel
theorem d_M_keep_251 : decode b_M_keep 251 = .ok (.lastore, 1) := by decide +kernel
theorem d_M_keep_252 : decode b_M_keep 252 = .ok (.aload_n 0, 1) := by decide +kernel
theorem d_M_keep_253 : decode b_M_keep 253 = .ok (.getfield 36, 3) := by decide +kernel
theorem d_M_keep_256 : decode b_M_keep 256 = .ok (.iload 8, 2) := by decide +kernel
theorem d_M_keep_258 : decode b_M_keep 258 = .ok (.iload_n 1, 1) := by decide +kernel
theorem d_M_keep_259 : decode b_M_keep 259 = .ok (.iastore, 1) := by decide +kernel
theorem d_M_keep_260 : decode b_M_keep 260 = .ok (.aload_n 0, 1) := by decide +kernel
theorem d_M_keep_261 : decode b_M_keep 261 = .ok (.getfield 39, 3) := by decide +kernel
theorem d_M_keep_264 : decode b_M_keep 264 = .ok (.iload 8, 2) := by decide +kernel
theorem d_M_keep_266 : decode b_M_keep 266 = .ok (.iload 6, 2) := by decide +kernel
theorem d_M_keep_268 : decode b_M_keep 268 = .ok (.iastore, 1) := by decide +kernel
theorem d_M_keep_269 : decode b_M_keep 269 = .ok (.aload_n 0, 1) := by decide +kernel
theorem d_M_keep_270 : decode b_M_keep 270 = .ok (.getfield 42, 3) := by decide +kernel
theorem d_M_keep_273 : decode b_M_keep 273 = .ok (.iload 8, 2) := by decide +kernel
theorem d_M_keep_275 : decode b_M_keep 275 = .ok (.iload 7, 2) := by decide +kernel
theorem d_M_keep_277 : decode b_M_keep 277 = .ok (.iastore, 1) := by decide +kernel
theorem d_M_keep_278 : decode b_M_keep 278 = .ok (.aload_n 0, 1) := by decide +kernel
theorem d_M_keep_279 : decode b_M_keep 279 = .ok (.dup, 1) := by decide +kernel
theorem d_M_keep_280 : decode b_M_keep 280 = .ok (.getfield 98, 3) := by decide +kernel
theorem d_M_keep_283 : decode b_M_keep 283 = .ok (.iconst 1, 1) := by decide +kernel
theorem d_M_keep_284 : decode b_M_keep 284 = .ok (.iadd, 1) := by decide +kernel
theorem d_M_keep_285 : decode b_M_keep 285 = .ok (.putfield 98, 3) := by decide +kernel
theorem d_M_keep_288 : decode b_M_keep 288 = .ok (.return_, 1) := by decide +kernel
theorem d_M_isAhead_0 : decode b_M_isAhead 0 = .ok (.iload_n 1, 1) := by decide +kernel
theorem d_M_isAhead_1 : decode b_M_isAhead 1 = .ok (.aload_n 0, 1) := by decide +kernel
theorem d_M_isAhead_2 : decode b_M_isAhead 2 = .ok (.getfield 26, 3) := by decide +kernel
theorem d_M_isAhead_5 : decode b_M_isAhead 5 = .ok (.iload 5, 2) := by decide +kernel
theorem d_M_isAhead_7 : decode b_M_isAhead 7 = .ok (.iaload, 1) := by decide +kernel
theorem d_M_isAhead_8 : decode b_M_isAhead 8 = .ok (.if_icmp .eq 20, 3) := by decide +kernel
theorem d_M_isAhead_11 : decode b_M_isAhead 11 = .ok (.iload_n 1, 1) := by decide +kernel
theorem d_M_isAhead_12 : decode b_M_isAhead 12 = .ok (.aload_n 0, 1) := by decide +kernel
theorem d_M_isAhead_13 : decode b_M_isAhead 13 = .ok (.getfield 26, 3) := by decide +kernel
theorem d_M_isAhead_16 : decode b_M_isAhead 16 = .ok (.iload 5, 2) := by decide +kernel
theorem d_M_isAhead_18 : decode b_M_isAhead 18 = .ok (.iaload, 1) := by decide +kernel
theorem d_M_isAhead_19 : decode b_M_isAhead 19 = .ok (.if_icmp .ge 7, 3) := by decide +kernel
theorem d_M_isAhead_22 : decode b_M_isAhead 22 = .ok (.iconst 1, 1) := by decide +kernel
theorem d_M_isAhead_23 : decode b_M_isAhead 23 = .ok (.goto 4, 3) := by decide +kernel
theorem d_M_isAhead_26 : decode b_M_isAhead 26 = .ok (.iconst 0, 1) := by decide +kernel
theorem d_M_isAhead_27 : decode b_M_isAhead 27 = .ok (.ireturn, 1) := by decide +kernel
theorem d_M_isAhead_28 : decode b_M_isAhead 28 = .ok (.iload_n 2, 1) := by decide +kernel
theorem d_M_isAhead_29 : decode b_M_isAhead 29 = .ok (.aload_n 0, 1) := by decide +kernel
theorem d_M_isAhead_30 : decode b_M_isAhead 30 = .ok (.getfield 36, 3) := by decide +kernel
theorem d_M_isAhead_33 : decode b_M_isAhead 33 = .ok (.iload 5, 2) := by decide +kernel
theorem d_M_isAhead_35 : decode b_M_isAhead 35 = .ok (.iaload, 1) := by decide +kernel
theorem d_M_isAhead_36 : decode b_M_isAhead 36 = .ok (.if_icmp .eq 20, 3) := by decide +kernel
theorem d_M_isAhead_39 : decode b_M_isAhead 39 = .ok (.iload_n 2, 1) := by decide +kernel
theorem d_M_isAhead_40 : decode b_M_isAhead 40 = .ok (.aload_n 0, 1) := by decide +kernel
theorem d_M_isAhead_41 : decode b_M_isAhead 41 = .ok (.getfield 36, 3) := by decide +kernel
theorem d_M_isAhead_44 : decode b_M_isAhead 44 = .ok (.iload 5, 2) := by decide +kernel
theorem d_M_isAhead_46 : decode b_M_isAhead 46 = .ok (.iaload, 1) := by decide +kernel
theorem d_M_isAhead_47 : decode b_M_isAhead 47 = .ok (.if_icmp .ge 7, 3) := by decide +kernel
theorem d_M_isAhead_50 : decode b_M_isAhead 50 = .ok (.iconst 1, 1) := by decide +kernel
theorem d_M_isAhead_51 : decode b_M_isAhead 51 = .ok (.goto 4, 3) := by decide +kernel
theorem d_M_isAhead_54 : decode b_M_isAhead 54 = .ok (.iconst 0, 1) := by decide +kernel
theorem d_M_isAhead_55 : decode b_M_isAhead 55 = .ok (.ireturn, 1) := by decide +kernel
theorem d_M_isAhead_56 : decode b_M_isAhead 56 = .ok (.lload_n 3, 1) := by decide +kernel
theorem d_M_isAhead_57 : decode b_M_isAhead 57 = .ok (.aload_n 0, 1) := by decide +kernel
theorem d_M_isAhead_58 : decode b_M_isAhead 58 = .ok (.getfield 32, 3) := by decide +kernel
theorem d_M_isAhead_61 : decode b_M_isAhead 61 = .ok (.iload 5, 2) := by decide +kernel
theorem d_M_isAhead_63 : decode b_M_isAhead 63 = .ok (.laload, 1) := by decide +kernel
theorem d_M_isAhead_64 : decode b_M_isAhead 64 = .ok (.lcmp, 1) := by decide +kernel
theorem d_M_isAhead_65 : decode b_M_isAhead 65 = .ok (.ifCond .ge 7, 3) := by decide +kernel
theorem d_M_isAhead_68 : decode b_M_isAhead 68 = .ok (.iconst 1, 1) := by decide +kernel
theorem d_M_isAhead_69 : decode b_M_isAhead 69 = .ok (.goto 4, 3) := by decide +kernel
theorem d_M_isAhead_72 : decode b_M_isAhead 72 = .ok (.iconst 0, 1) := by decide +kernel
theorem d_M_isAhead_73 : decode b_M_isAhead 73 = .ok (.ireturn, 1) := by decide +kernel
theorem d_M_tell_0 : decode b_M_tell 0 = .ok (.aload_n 0, 1) := by decide +kernel
theorem d_M_tell_1 : decode b_M_tell 1 = .ok (.iconst 1, 1) := by decide +kernel
theorem d_M_tell_2 : decode b_M_tell 2 = .ok (.putfield 76, 3) := by decide +kernel
theorem d_M_tell_5 : decode b_M_tell 5 = .ok (.aload_n 0, 1) := by decide +kernel
theorem d_M_tell_6 : decode b_M_tell 6 = .ok (.aload_n 0, 1) := by decide +kernel
theorem d_M_tell_7 : decode b_M_tell 7 = .ok (.getfield 26, 3) := by decide +kernel
theorem d_M_tell_10 : decode b_M_tell 10 = .ok (.iload_n 1, 1) := by decide +kernel
theorem d_M_tell_11 : decode b_M_tell 11 = .ok (.iaload, 1) := by decide +kernel
theorem d_M_tell_12 : decode b_M_tell 12 = .ok (.putfield 109, 3) := by decide +kernel
theorem d_M_tell_15 : decode b_M_tell 15 = .ok (.aload_n 0, 1) := by decide +kernel
theorem d_M_tell_16 : decode b_M_tell 16 = .ok (.aload_n 0, 1) := by decide +kernel
theorem d_M_tell_17 : decode b_M_tell 17 = .ok (.getfield 29, 3) := by decide +kernel
theorem d_M_tell_20 : decode b_M_tell 20 = .ok (.iload_n 1, 1) := by decide +kernel
theorem d_M_tell_21 : decode b_M_tell 21 = .ok (.iaload, 1) := by decide +kernel
theorem d_M_tell_22 : decode b_M_tell 22 = .ok (.putfield 112, 3) := by decide +kernel
theorem d_M_tell_25 : decode b_M_tell 25 = .ok (.aload_n 0, 1) := by decide +kernel
theorem d_M_tell_26 : decode b_M_tell 26 = .ok (.aload_n 0, 1) := by decide +kernel
theorem d_M_tell_27 : decode b_M_tell 27 = .ok (.getfield 36, 3) := by decide +kernel
theorem d_M_tell_30 : decode b_M_tell 30 = .ok (.iload_n 1, 1) := by decide +kernel
theorem d_M_tell_31 : decode b_M_tell 31 = .ok (.iaload, 1) := by decide +kernel
theorem d_M_tell_32 : decode b_M_tell 32 = .ok (.putfield 115, 3) := by decide +kernel
theorem d_M_tell_35 : decode b_M_tell 35 = .ok (.aload_n 0, 1) := by decide +kernel
theorem d_M_tell_36 : decode b_M_tell 36 = .ok (.aload_n 0, 1) := by decide +kernel
theorem d_M_tell_37 : decode b_M_tell 37 = .ok (.getfield 32, 3) := by decide +kernel
theorem d_M_tell_40 : decode b_M_tell 40 = .ok (.iload_n 1, 1) := by decide +kernel
theorem d_M_tell_41 : decode b_M_tell 41 = .ok (.laload, 1) := by decide +kernel
theorem d_M_tell_42 : decode b_M_tell 42 = .ok (.putfield 118, 3) := by decide +kernel
theorem d_M_tell_45 : decode b_M_tell 45 = .ok (.aload_n 0, 1) := by decide +kernel
theorem d_M_tell_46 : decode b_M_tell 46 = .ok (.getfield 115, 3) := by decide +kernel
theorem d_M_tell_49 : decode b_M_tell 49 = .ok (.ireturn, 1) := by decide +kernel
theorem d_M_next_0 : decode b_M_next 0 = .ok (.aload_n 0, 1) := by decide +kernel
theorem d_M_next_1 : decode b_M_next 1 = .ok (.iload_n 1, 1) := by decide +kernel
theorem d_M_next_2 : decode b_M_next 2 = .ok (.iload_n 2, 1) := by decide +kernel
theorem d_M_next_3 : decode b_M_next 3 = .ok (.invokevirtual 91, 3) := by decide +kernel
theorem d_M_next_6 : decode b_M_next 6 = .ok (.ifCond .eq 14, 3) := by decide +kernel
theorem d_M_next_9 : decode b_M_next 9 = .ok (.iload_n 3, 1) := by decide +kernel
theorem d_M_next_10 : decode b_M_next 10 = .ok (.iconst 0, 1) := by decide +kernel
theorem d_M_next_11 : decode b_M_next 11 = .ok (.sipush 299, 3) := by decide +kernel
theorem d_M_next_14 : decode b_M_next 14 = .ok (.invokestatic 83, 3) := by decide +kernel
theorem d_M_next_17 : decode b_M_next 17 = .ok (.ifCond .ne 6, 3) := by decide +kernel
theorem d_M_next_20 : decode b_M_next 20 = .ok (.bipush (-2), 2) := by decide +kernel
theorem d_M_next_22 : decode b_M_next 22 = .ok (.ireturn, 1) := by decide +kernel
theorem d_M_next_23 : decode b_M_next 23 = .ok (.aload_n 0, 1) := by decide +kernel
theorem d_M_next_24 : decode b_M_next 24 = .ok (.iload_n 1, 1) := by decide +kernel
theorem d_M_next_25 : decode b_M_next 25 = .ok (.iload_n 2, 1) := by decide +kernel
theorem d_M_next_26 : decode b_M_next 26 = .ok (.invokevirtual 122, 3) := by decide +kernel
theorem d_M_next_29 : decode b_M_next 29 = .ok (.iload_n 3, 1) := by decide +kernel
theorem d_M_next_30 : decode b_M_next 30 = .ok (.aload_n 0, 1) := by decide +kernel
theorem d_M_next_31 : decode b_M_next 31 = .ok (.getfield 98, 3) := by decide +kernel
theorem d_M_next_34 : decode b_M_next 34 = .ok (.if_icmp .ge 11, 3) := by decide +kernel
theorem d_M_next_37 : decode b_M_next 37 = .ok (.aload_n 0, 1) := by decide +kernel
theorem d_M_next_38 : decode b_M_next 38 = .ok (.iload_n 3, 1) := by decide +kernel
theorem d_M_next_39 : decode b_M_next 39 = .ok (.invokevirtual 126, 3) := by decide +kernel
theorem d_M_next_42 : decode b_M_next 42 = .ok (.goto 4, 3) := by decide +kernel
theorem d_M_next_45 : decode b_M_next 45 = .ok (.iconst (-1), 1) := by decide +kernel
theorem d_M_next_46 : decode b_M_next 46 = .ok (.ireturn, 1) := by decide +kernel
theorem d_M_count_0 : decode b_M_count 0 = .ok (.aload_n 0, 1) := by decide +kernel
theorem d_M_count_1 : decode b_M_count 1 = .ok (.iload_n 1, 1) := by decide +kernel
theorem d_M_count_2 : decode b_M_count 2 = .ok (.iload_n 2, 1) := by decide +kernel
theorem d_M_count_3 : decode b_M_count 3 = .ok (.invokevirtual 91, 3) := by decide +kernel
theorem d_M_count_6 : decode b_M_count 6 = .ok (.ifCond .ne 6, 3) := by decide +kernel
theorem d_M_count_9 : decode b_M_count 9 = .ok (.bipush (-2), 2) := by decide +kernel
theorem d_M_count_11 : decode b_M_count 11 = .ok (.ireturn, 1) := by decide +kernel
theorem d_M_count_12 : decode b_M_count 12 = .ok (.aload_n 0, 1) := by decide +kernel
theorem d_M_count_13 : decode b_M_count 13 = .ok (.iload_n 1, 1) := by decide +kernel
theorem d_M_count_14 : decode b_M_count 14 = .ok (.iload_n 2, 1) := by decide +kernel
theorem d_M_count_15 : decode b_M_count 15 = .ok (.invokevirtual 122, 3) := by decide +kernel
theorem d_M_count_18 : decode b_M_count 18 = .ok (.aload_n 0, 1) := by decide +kernel
theorem d_M_count_19 : decode b_M_count 19 = .ok (.getfield 98, 3) := by decide +kernel
theorem d_M_count_22 : decode b_M_count 22 = .ok (.ireturn, 1) := by decide +kernel
theorem d_M_apart_0 : decode b_M_apart 0 = .ok (.aload_n 0, 1) := by decide +kernel
theorem d_M_apart_1 : decode b_M_apart 1 = .ok (.iload_n 1, 1) := by decide +kernel
theorem d_M_apart_2 : decode b_M_apart 2 = .ok (.iload_n 2, 1) := by decide +kernel
theorem d_M_apart_3 : decode b_M_apart 3 = .ok (.invokevirtual 91, 3) := by decide +kernel
theorem d_M_apart_6 : decode b_M_apart 6 = .ok (.ifCond .eq 22, 3) := by decide +kernel
theorem d_M_apart_9 : decode b_M_apart 9 = .ok (.iload_n 3, 1) := by decide +kernel
theorem d_M_apart_10 : decode b_M_apart 10 = .ok (.iconst 1, 1) := by decide +kernel
theorem d_M_apart_11 : decode b_M_apart 11 = .ok (.iconst 5, 1) := by decide +kernel
theorem d_M_apart_12 : decode b_M_apart 12 = .ok (.invokestatic 83, 3) := by decide +kernel
theorem d_M_apart_15 : decode b_M_apart 15 = .ok (.ifCond .eq 13, 3) := by decide +kernel
theorem d_M_apart_18 : decode b_M_apart 18 = .ok (.iload 4, 2) := by decide +kernel
theorem d_M_apart_20 : decode b_M_apart 20 = .ok (.iconst 0, 1) := by decide +kernel
theorem d_M_apart_21 : decode b_M_apart 21 = .ok (.iconst 1, 1) := by decide +kernel
theorem d_M_apart_22 : decode b_M_apart 22 = .ok (.invokestatic 83, 3) := by decide +kernel
theorem d_M_apart_25 : decode b_M_apart 25 = .ok (.ifCond .ne 6, 3) := by decide +kernel
theorem d_M_apart_28 : decode b_M_apart 28 = .ok (.bipush (-2), 2) := by decide +kernel
theorem d_M_apart_30 : decode b_M_apart 30 = .ok (.ireturn, 1) := by decide +kernel
theorem d_M_apart_31 : decode b_M_apart 31 = .ok (.aload_n 0, 1) := by decide +kernel
theorem d_M_apart_32 : decode b_M_apart 32 = .ok (.iload_n 1, 1) := by decide +kernel
theorem d_M_apart_33 : decode b_M_apart 33 = .ok (.iload_n 2, 1) := by decide +kernel
theorem d_M_apart_34 : decode b_M_apart 34 = .ok (.iload 4, 2) := by decide +kernel
theorem d_M_apart_36 : decode b_M_apart 36 = .ok (.invokevirtual 130, 3) := by decide +kernel
theorem d_M_apart_39 : decode b_M_apart 39 = .ok (.iload_n 3, 1) := by decide +kernel
theorem d_M_apart_40 : decode b_M_apart 40 = .ok (.if_icmp .ge 5, 3) := by decide +kernel
theorem d_M_apart_43 : decode b_M_apart 43 = .ok (.iconst (-1), 1) := by decide +kernel
theorem d_M_apart_44 : decode b_M_apart 44 = .ok (.ireturn, 1) := by decide +kernel
theorem d_M_apart_45 : decode b_M_apart 45 = .ok (.aload_n 0, 1) := by decide +kernel
theorem d_M_apart_46 : decode b_M_apart 46 = .ok (.iload_n 1, 1) := by decide +kernel
theorem d_M_apart_47 : decode b_M_apart 47 = .ok (.iload_n 2, 1) := by decide +kernel
theorem d_M_apart_48 : decode b_M_apart 48 = .ok (.invokevirtual 122, 3) := by decide +kernel
theorem d_M_apart_51 : decode b_M_apart 51 = .ok (.iconst (-1), 1) := by decide +kernel
theorem d_M_apart_52 : decode b_M_apart 52 = .ok (.istore 5, 2) := by decide +kernel
theorem d_M_apart_54 : decode b_M_apart 54 = .ok (.iconst 0, 1) := by decide +kernel
theorem d_M_apart_55 : decode b_M_apart 55 = .ok (.istore 6, 2) := by decide +kernel
theorem d_M_apart_57 : decode b_M_apart 57 = .ok (.aload_n 0, 1) := by decide +kernel
theorem d_M_apart_58 : decode b_M_apart 58 = .ok (.getfield 57, 3) := by decide +kernel
theorem d_M_apart_61 : decode b_M_apart 61 = .ok (.iconst 0, 1) := by decide +kernel
theorem d_M_apart_62 : decode b_M_apart 62 = .ok (.iconst 0, 1) := by decide +kernel
theorem d_M_apart_63 : decode b_M_apart 63 = .ok (.iastore, 1) := by decide +kernel
theorem d_M_apart_64 : decode b_M_apart 64 = .ok (.aload_n 0, 1) := by decide +kernel
theorem d_M_apart_65 : decode b_M_apart 65 = .ok (.getfield 60, 3) := by decide +kernel
theorem d_M_apart_68 : decode b_M_apart 68 = .ok (.iconst 0, 1) := by decide +kernel
theorem d_M_apart_69 : decode b_M_apart 69 = .ok (.iconst 0, 1) := by decide +kernel
theorem d_M_apart_70 : decode b_M_apart 70 = .ok (.iastore, 1) := by decide +kernel
theorem d_M_apart_71 : decode b_M_apart 71 = .ok (.aload_n 0, 1) := by decide +kernel
theorem d_M_apart_72 : decode b_M_apart 72 = .ok (.getfield 63, 3) := by decide +kernel
theorem d_M_apart_75 : decode b_M_apart 75 = .ok (.iconst 0, 1) := by decide +kernel
theorem d_M_apart_76 : decode b_M_apart 76 = .ok (.iconst 0, 1) := by decide +kernel
theorem d_M_apart_77 : decode b_M_apart 77 = .ok (.iastore, 1) := by decide +kernel
theorem d_M_apart_78 : decode b_M_apart 78 = .ok (.aload_n 0, 1) := by decide +kernel
theorem d_M_apart_79 : decode b_M_apart 79 = .ok (.getfield 66, 3) := by decide +kernel
theorem d_M_apart_82 : decode b_M_apart 82 = .ok (.iconst 0, 1) := by decide +kernel
theorem d_M_apart_83 : decode b_M_apart 83 = .ok (.iconst 0, 1) := by decide +kernel
theorem d_M_apart_84 : decode b_M_apart 84 = .ok (.iastore, 1) := by decide +kernel
theorem d_M_apart_85 : decode b_M_apart 85 = .ok (.iload 6, 2) := by decide +kernel
theorem d_M_apart_87 : decode b_M_apart 87 = .ok (.ifCond .lt 272, 3) := by decide +kernel
theorem d_M_apart_90 : decode b_M_apart 90 = .ok (.aload_n 0, 1) := by decide +kernel
theorem d_M_apart_91 : decode b_M_apart 91 = .ok (.getfield 57, 3) := by decide +kernel
theorem d_M_apart_94 : decode b_M_apart 94 = .ok (.iload 6, 2) := by decide +kernel
theorem d_M_apart_96 : decode b_M_apart 96 = .ok (.iaload, 1) := by decide +kernel
theorem d_M_apart_97 : decode b_M_apart 97 = .ok (.istore 7, 2) := by decide +kernel
theorem d_M_apart_99 : decode b_M_apart 99 = .ok (.iload 7, 2) := by decide +kernel
theorem d_M_apart_101 : decode b_M_apart 101 = .ok (.aload_n 0, 1) := by decide +kernel
theorem d_M_apart_102 : decode b_M_apart 102 = .ok (.getfield 98, 3) := by decide +kernel
theorem d_M_apart_105 : decode b_M_apart 105 = .ok (.if_icmp .eq 34, 3) := by decide +kernel
theorem d_M_apart_108 : decode b_M_apart 108 = .ok (.iload 5, 2) := by decide +kernel
theorem d_M_apart_110 : decode b_M_apart 110 = .ok (.iconst (-1), 1) := by decide +kernel
theorem d_M_apart_111 : decode b_M_apart 111 = .ok (.if_icmp .eq 32, 3) := by decide +kernel
theorem d_M_apart_114 : decode b_M_apart 114 = .ok (.aload_n 0, 1) := by decide +kernel
theorem d_M_apart_115 : decode b_M_apart 115 = .ok (.getfield 60, 3) := by decide +kernel
theorem d_M_apart_118 : decode b_M_apart 118 = .ok (.iload 6, 2) := by decide +kernel
theorem d_M_apart_120 : decode b_M_apart 120 = .ok (.iaload, 1) := by decide +kernel
theorem d_M_apart_121 : decode b_M_apart 121 = .ok (.iload_n 3, 1) := by decide +kernel
theorem d_M_apart_122 : decode b_M_apart 122 = .ok (.iload 6, 2) := by decide +kernel
theorem d_M_apart_124 : decode b_M_apart 124 = .ok (.isub, 1) := by decide +kernel
theorem d_M_apart_125 : decode b_M_apart 125 = .ok (.aload_n 0, 1) := by decide +kernel
theorem d_M_apart_126 : decode b_M_apart 126 = .ok (.getfield 26, 3) := by decide +kernel
theorem d_M_apart_129 : decode b_M_apart 129 = .ok (.iload 7, 2) := by decide +kernel
theorem d_M_apart_131 : decode b_M_apart 131 = .ok (.iaload, 1) := by decide +kernel
theorem d_M_apart_132 : decode b_M_apart 132 = .ok (.imul, 1) := by decide +kernel
theorem d_M_apart_133 : decode b_M_apart 133 = .ok (.iadd, 1) := by decide +kernel
theorem d_M_apart_134 : decode b_M_apart 134 = .ok (.iload 5, 2) := by decide +kernel
theorem d_M_apart_136 : decode b_M_apart 136 = .ok (.if_icmp .lt 7, 3) := by decide +kernel
theorem d_M_apart_139 : decode b_M_apart 139 = .ok (.iconst 1, 1) := by decide +kernel
theorem d_M_apart_140 : decode b_M_apart 140 = .ok (.goto 4, 3) := by decide +kernel
theorem d_M_apart_143 : decode b_M_apart 143 = .ok (.iconst 0, 1) := by decide +kernel
theorem d_M_apart_144 : decode b_M_apart 144 = .ok (.istore 8, 2) := by decide +kernel
theorem d_M_apart_146 : decode b_M_apart 146 = .ok (.iload 8, 2) := by decide +kernel
theorem d_M_apart_148 : decode b_M_apart 148 = .ok (.ifCond .eq 25, 3) := by decide +kernel
theorem d_M_apart_151 : decode b_M_apart 151 = .ok (.iinc 6 (-1), 3) := by decide +kernel
theorem d_M_apart_154 : decode b_M_apart 154 = .ok (.iload 6, 2) := by decide +kernel
theorem d_M_apart_156 : decode b_M_apart 156 = .ok (.ifCond .lt 200, 3) := by decide +kernel
theorem d_M_apart_159 : decode b_M_apart 159 = .ok (.aload_n 0, 1) := by decide +kernel
theorem d_M_apart_160 : decode b_M_apart 160 = .ok (.getfield 57, 3) := by decide +kernel
theorem d_M_apart_163 : decode b_M_apart 163 = .ok (.iload 6, 2) := by decide +kernel
theorem d_M_apart_165 : decode b_M_apart 165 = .ok (.dup2, 1) := by decide +kernel
theorem d_M_apart_166 : decode b_M_apart 166 = .ok (.iaload, 1) := by decide +kernel
theorem d_M_apart_167 : decode b_M_apart 167 = .ok (.iconst 1, 1) := by decide +kernel
theorem d_M_apart_168 : decode b_M_apart 168 = .ok (.iadd, 1) := by decide +kernel
theorem d_M_apart_169 : decode b_M_apart 169 = .ok (.iastore, 1) := by decide +kernel
theorem d_M_apart_170 : decode b_M_apart 170 = .ok (.goto 186, 3) := by decide +kernel
theorem d_M_apart_173 : decode b_M_apart 173 = .ok (.aload_n 0, 1) := by decide +kernel
theorem d_M_apart_174 : decode b_M_apart 174 = .ok (.getfield 39, 3) := by decide +kernel
theorem d_M_apart_177 : decode b_M_apart 177 = .ok (.iload 7, 2) := by decide +kernel
theorem d_M_apart_179 : decode b_M_apart 179 = .ok (.iaload, 1) := by decide +kernel
theorem d_M_apart_180 : decode b_M_apart 180 = .ok (.aload_n 0, 1) := by decide +kernel
theorem d_M_apart_181 : decode b_M_apart 181 = .ok (.getfield 63, 3) := by decide +kernel
theorem d_M_apart_184 : decode b_M_apart 184 = .ok (.iload 6, 2) := by decide +kernel
theorem d_M_apart_186 : decode b_M_apart 186 = .ok (.iaload, 1) := by decide +kernel
theorem d_M_apart_187 : decode b_M_apart 187 = .ok (.iand, 1) := by decide +kernel
theorem d_M_apart_188 : decode b_M_apart 188 = .ok (.ifCond .ne 27, 3) := by decide +kernel
theorem d_M_apart_191 : decode b_M_apart 191 = .ok (.iload 4, 2) := by decide +kernel
theorem d_M_apart_193 : decode b_M_apart 193 = .ok (.iconst 1, 1) := by decide +kernel
theorem d_M_apart_194 : decode b_M_apart 194 = .ok (.if_icmp .ne 35, 3) := by decide +kernel
theorem d_M_apart_197 : decode b_M_apart 197 = .ok (.aload_n 0, 1) := by decide +kernel
theorem d_M_apart_198 : decode b_M_apart 198 = .ok (.getfield 42, 3) := by decide +kernel
theorem d_M_apart_201 : decode b_M_apart 201 = .ok (.iload 7, 2) := by decide +kernel
theorem d_M_apart_203 : decode b_M_apart 203 = .ok (.iaload, 1) := by decide +kernel
theorem d_M_apart_204 : decode b_M_apart 204 = .ok (.aload_n 0, 1) := by decide +kernel
theorem d_M_apart_205 : decode b_M_apart 205 = .ok (.getfield 66, 3) := by decide +kernel
theorem d_M_apart_208 : decode b_M_apart 208 = .ok (.iload 6, 2) := by decide +kernel
theorem d_M_apart_210 : decode b_M_apart 210 = .ok (.iaload, 1) := by decide +kernel
theorem d_M_apart_211 : decode b_M_apart 211 = .ok (.iand, 1) := by decide +kernel
theorem d_M_apart_212 : decode b_M_apart 212 = .ok (.ifCond .eq 17, 3) := by decide +kernel
theorem d_M_apart_215 : decode b_M_apart 215 = .ok (.aload_n 0, 1) := by decide +kernel
theorem d_M_apart_216 : decode b_M_apart 216 = .ok (.getfield 57, 3) := by decide +kernel
theorem d_M_apart_219 : decode b_M_apart 219 = .ok (.iload 6, 2) := by decide +kernel
theorem d_M_apart_221 : decode b_M_apart 221 = .ok (.dup2, 1) := by decide +kernel
theorem d_M_apart_222 : decode b_M_apart 222 = .ok (.iaload, 1) := by decide +kernel
theorem d_M_apart_223 : decode b_M_apart 223 = .ok (.iconst 1, 1) := by decide +kernel
theorem d_M_apart_224 : decode b_M_apart 224 = .ok (.iadd, 1) := by decide +kernel
theorem d_M_apart_225 : decode b_M_apart 225 = .ok (.iastore, 1) := by decide +kernel
theorem d_M_apart_226 : decode b_M_apart 226 = .ok (.goto 130, 3) := by decide +kernel
theorem d_M_apart_229 : decode b_M_apart 229 = .ok (.iload 6, 2) := by decide +kernel
theorem d_M_apart_231 : decode b_M_apart 231 = .ok (.iload_n 3, 1) := by decide +kernel
theorem d_M_apart_232 : decode b_M_apart 232 = .ok (.iconst 1, 1) := by decide +kernel
theorem d_M_apart_233 : decode b_M_apart 233 = .ok (.isub, 1) := by decide +kernel
theorem d_M_apart_234 : decode b_M_apart 234 = .ok (.if_icmp .ne 34, 3) := by decide +kernel
theorem d_M_apart_237 : decode b_M_apart 237 = .ok (.aload_n 0, 1) := by decide +kernel
theorem d_M_apart_238 : decode b_M_apart 238 = .ok (.getfield 60, 3) := by decide +kernel
theorem d_M_apart_241 : decode b_M_apart 241 = .ok (.iload 6, 2) := by decide +kernel
theorem d_M_apart_243 : decode b_M_apart 243 = .ok (.iaload, 1) := by decide +kernel
theorem d_M_apart_244 : decode b_M_apart 244 = .ok (.aload_n 0, 1) := by decide +kernel
theorem d_M_apart_245 : decode b_M_apart 245 = .ok (.getfield 26, 3) := by decide +kernel
theorem d_M_apart_248 : decode b_M_apart 248 = .ok (.iload 7, 2) := by decide +kernel
theorem d_M_apart_250 : decode b_M_apart 250 = .ok (.iaload, 1) := by decide +kernel
theorem d_M_apart_251 : decode b_M_apart 251 = .ok (.iadd, 1) := by decide +kernel
theorem d_M_apart_252 : decode b_M_apart 252 = .ok (.istore 5, 2) := by decide +kernel
theorem d_M_apart_254 : decode b_M_apart 254 = .ok (.aload_n 0, 1) := by decide +kernel
theorem d_M_apart_255 : decode b_M_apart 255 = .ok (.getfield 57, 3) := by decide +kernel
theorem d_M_apart_258 : decode b_M_apart 258 = .ok (.iload 6, 2) := by decide +kernel
theorem d_M_apart_260 : decode b_M_apart 260 = .ok (.dup2, 1) := by decide +kernel
theorem d_M_apart_261 : decode b_M_apart 261 = .ok (.iaload, 1) := by decide +kernel
theorem d_M_apart_262 : decode b_M_apart 262 = .ok (.iconst 1, 1) := by decide +kernel
theorem d_M_apart_263 : decode b_M_apart 263 = .ok (.iadd, 1) := by decide +kernel
theorem d_M_apart_264 : decode b_M_apart 264 = .ok (.iastore, 1) := by decide +kernel
theorem d_M_apart_265 : decode b_M_apart 265 = .ok (.goto 91, 3) := by decide +kernel
theorem d_M_apart_268 : decode b_M_apart 268 = .ok (.aload_n 0, 1) := by decide +kernel
theorem d_M_apart_269 : decode b_M_apart 269 = .ok (.getfield 60, 3) := by decide +kernel
theorem d_M_apart_272 : decode b_M_apart 272 = .ok (.iload 6, 2) := by decide +kernel
theorem d_M_apart_274 : decode b_M_apart 274 = .ok (.iconst 1, 1) := by decide +kernel
theorem d_M_apart_275 : decode b_M_apart 275 = .ok (.iadd, 1) := by decide +kernel
theorem d_M_apart_276 : decode b_M_apart 276 = .ok (.aload_n 0, 1) := by decide +kernel
theorem d_M_apart_277 : decode b_M_apart 277 = .ok (.getfield 60, 3) := by decide +kernel
theorem d_M_apart_280 : decode b_M_apart 280 = .ok (.iload 6, 2) := by decide +kernel
theorem d_M_apart_282 : decode b_M_apart 282 = .ok (.iaload, 1) := by decide +kernel
theorem d_M_apart_283 : decode b_M_apart 283 = .ok (.aload_n 0, 1) := by decide +kernel
theorem d_M_apart_284 : decode b_M_apart 284 = .ok (.getfield 26, 3) := by decide +kernel
theorem d_M_apart_287 : decode b_M_apart 287 = .ok (.iload 7, 2) := by decide +kernel
theorem d_M_apart_289 : decode b_M_apart 289 = .ok (.iaload, 1) := by decide +kernel
theorem d_M_apart_290 : decode b_M_apart 290 = .ok (.iadd, 1) := by decide +kernel
theorem d_M_apart_291 : decode b_M_apart 291 = .ok (.iastore, 1) := by decide +kernel
theorem d_M_apart_292 : decode b_M_apart 292 = .ok (.aload_n 0, 1) := by decide +kernel
theorem d_M_apart_293 : decode b_M_apart 293 = .ok (.getfield 63, 3) := by decide +kernel
theorem d_M_apart_296 : decode b_M_apart 296 = .ok (.iload 6, 2) := by decide +kernel
theorem d_M_apart_298 : decode b_M_apart 298 = .ok (.iconst 1, 1) := by decide +kernel
theorem d_M_apart_299 : decode b_M_apart 299 = .ok (.iadd, 1) := by decide +kernel
theorem d_M_apart_300 : decode b_M_apart 300 = .ok (.aload_n 0, 1) := by decide +kernel
theorem d_M_apart_301 : decode b_M_apart 301 = .ok (.getfield 63, 3) := by decide +kernel
theorem d_M_apart_304 : decode b_M_apart 304 = .ok (.iload 6, 2) := by decide +kernel
theorem d_M_apart_306 : decode b_M_apart 306 = .ok (.iaload, 1) := by decide +kernel
theorem d_M_apart_307 : decode b_M_apart 307 = .ok (.aload_n 0, 1) := by decide +kernel
theorem d_M_apart_308 : decode b_M_apart 308 = .ok (.getfield 39, 3) := by decide +kernel
theorem d_M_apart_311 : decode b_M_apart 311 = .ok (.iload 7, 2) := by decide +kernel
theorem d_M_apart_313 : decode b_M_apart 313 = .ok (.iaload, 1) := by decide +kernel
theorem d_M_apart_314 : decode b_M_apart 314 = .ok (.ior, 1) := by decide +kernel
theorem d_M_apart_315 : decode b_M_apart 315 = .ok (.iastore, 1) := by decide +kernel
theorem d_M_apart_316 : decode b_M_apart 316 = .ok (.aload_n 0, 1) := by decide +kernel
theorem d_M_apart_317 : decode b_M_apart 317 = .ok (.getfield 66, 3) := by decide +kernel
theorem d_M_apart_320 : decode b_M_apart 320 = .ok (.iload 6, 2) := by decide +kernel
theorem d_M_apart_322 : decode b_M_apart 322 = .ok (.iconst 1, 1) := by decide +kernel
theorem d_M_apart_323 : decode b_M_apart 323 = .ok (.iadd, 1) := by decide +kernel
theorem d_M_apart_324 : decode b_M_apart 324 = .ok (.aload_n 0, 1) := by decide +kernel
theorem d_M_apart_325 : decode b_M_apart 325 = .ok (.getfield 66, 3) := by decide +kernel
theorem d_M_apart_328 : decode b_M_apart 328 = .ok (.iload 6, 2) := by decide +kernel
theorem d_M_apart_330 : decode b_M_apart 330 = .ok (.iaload, 1) := by decide +kernel
theorem d_M_apart_331 : decode b_M_apart 331 = .ok (.aload_n 0, 1) := by decide +kernel
theorem d_M_apart_332 : decode b_M_apart 332 = .ok (.getfield 42, 3) := by decide +kernel
theorem d_M_apart_335 : decode b_M_apart 335 = .ok (.iload 7, 2) := by decide +kernel
theorem d_M_apart_337 : decode b_M_apart 337 = .ok (.iaload, 1) := by decide +kernel
theorem d_M_apart_338 : decode b_M_apart 338 = .ok (.ior, 1) := by decide +kernel
theorem d_M_apart_339 : decode b_M_apart 339 = .ok (.iastore, 1) := by decide +kernel
theorem d_M_apart_340 : decode b_M_apart 340 = .ok (.aload_n 0, 1) := by decide +kernel
theorem d_M_apart_341 : decode b_M_apart 341 = .ok (.getfield 57, 3) := by decide +kernel
theorem d_M_apart_344 : decode b_M_apart 344 = .ok (.iload 6, 2) := by decide +kernel
theorem d_M_apart_346 : decode b_M_apart 346 = .ok (.iconst 1, 1) := by decide +kernel
theorem d_M_apart_347 : decode b_M_apart 347 = .ok (.iadd, 1) := by decide +kernel
theorem d_M_apart_348 : decode b_M_apart 348 = .ok (.iload 7, 2) := by decide +kernel
theorem d_M_apart_350 : decode b_M_apart 350 = .ok (.iconst 1, 1) := by decide +kernel
theorem d_M_apart_351 : decode b_M_apart 351 = .ok (.iadd, 1) := by decide +kernel
theorem d_M_apart_352 : decode b_M_apart 352 = .ok (.iastore, 1) := by decide +kernel
theorem d_M_apart_353 : decode b_M_apart 353 = .ok (.iinc 6 1, 3) := by decide +kernel
theorem d_M_apart_356 : decode b_M_apart 356 = .ok (.goto (-271), 3) := by decide +kernel
theorem d_M_apart_359 : decode b_M_apart 359 = .ok (.iload 5, 2) := by decide +kernel
theorem d_M_apart_361 : decode b_M_apart 361 = .ok (.ireturn, 1) := by decide +kernel
theorem d_M_out_0 : decode b_M_out 0 = .ok (.iconst 0, 1) := by decide +kernel
theorem d_M_out_1 : decode b_M_out 1 = .ok (.istore_n 2, 1) := by decide +kernel
theorem d_M_out_2 : decode b_M_out 2 = .ok (.iconst 0, 1) := by decide +kernel
theorem d_M_out_3 : decode b_M_out 3 = .ok (.istore_n 3, 1) := by decide +kernel
theorem d_M_out_4 : decode b_M_out 4 = .ok (.iload_n 3, 1) := by decide +kernel
theorem d_M_out_5 : decode b_M_out 5 = .ok (.aload_n 0, 1) := by decide +kernel
theorem d_M_out_6 : decode b_M_out 6 = .ok (.getfield 73, 3) := by decide +kernel
theorem d_M_out_9 : decode b_M_out 9 = .ok (.if_icmp .ge 53, 3) := by decide +kernel
theorem d_M_out_12 : decode b_M_out 12 = .ok (.iload_n 2, 1) := by decide +kernel
theorem d_M_out_13 : decode b_M_out 13 = .ok (.aload_n 0, 1) := by decide +kernel
theorem d_M_out_14 : decode b_M_out 14 = .ok (.getfield 22, 3) := by decide +kernel
theorem d_M_out_17 : decode b_M_out 17 = .ok (.iload_n 3, 1) := by decide +kernel
theorem d_M_out_18 : decode b_M_out 18 = .ok (.baload, 1) := by decide +kernel
theorem d_M_out_19 : decode b_M_out 19 = .ok (.ifCond .ne 34, 3) := by decide +kernel
theorem d_M_out_22 : decode b_M_out 22 = .ok (.iload_n 1, 1) := by decide +kernel
theorem d_M_out_23 : decode b_M_out 23 = .ok (.aload_n 0, 1) := by decide +kernel
theorem d_M_out_24 : decode b_M_out 24 = .ok (.getfield 7, 3) := by decide +kernel
theorem d_M_out_27 : decode b_M_out 27 = .ok (.iload_n 3, 1) := by decide +kernel
theorem d_M_out_28 : decode b_M_out 28 = .ok (.iaload, 1) := by decide +kernel
theorem d_M_out_29 : decode b_M_out 29 = .ok (.ishr, 1) := by decide +kernel
theorem d_M_out_30 : decode b_M_out 30 = .ok (.iconst 1, 1) := by decide +kernel
theorem d_M_out_31 : decode b_M_out 31 = .ok (.iand, 1) := by decide +kernel
theorem d_M_out_32 : decode b_M_out 32 = .ok (.iconst 1, 1) := by decide +kernel
theorem d_M_out_33 : decode b_M_out 33 = .ok (.if_icmp .ne 20, 3) := by decide +kernel
theorem d_M_out_36 : decode b_M_out 36 = .ok (.iload_n 1, 1) := by decide +kernel
theorem d_M_out_37 : decode b_M_out 37 = .ok (.aload_n 0, 1) := by decide +kernel
theorem d_M_out_38 : decode b_M_out 38 = .ok (.getfield 13, 3) := by decide +kernel
theorem d_M_out_41 : decode b_M_out 41 = .ok (.iload_n 3, 1) := by decide +kernel
theorem d_M_out_42 : decode b_M_out 42 = .ok (.iaload, 1) := by decide +kernel
theorem d_M_out_43 : decode b_M_out 43 = .ok (.ishr, 1) := by decide +kernel
theorem d_M_out_44 : decode b_M_out 44 = .ok (.iconst 1, 1) := by decide +kernel
theorem d_M_out_45 : decode b_M_out 45 = .ok (.iand, 1) := by decide +kernel
theorem d_M_out_46 : decode b_M_out 46 = .ok (.ifCond .ne 7, 3) := by decide +kernel
theorem d_M_out_49 : decode b_M_out 49 = .ok (.iconst 1, 1) := by decide +kernel
theorem d_M_out_50 : decode b_M_out 50 = .ok (.goto 4, 3) := by decide +kernel
theorem d_M_out_53 : decode b_M_out 53 = .ok (.iconst 0, 1) := by decide +kernel
theorem d_M_out_54 : decode b_M_out 54 = .ok (.iadd, 1) := by decide +kernel
theorem d_M_out_55 : decode b_M_out 55 = .ok (.istore_n 2, 1) := by decide +kernel
theorem d_M_out_56 : decode b_M_out 56 = .ok (.iinc 3 1, 3) := by decide +kernel
theorem d_M_out_59 : decode b_M_out 59 = .ok (.goto (-55), 3) := by decide +kernel
theorem d_M_out_62 : decode b_M_out 62 = .ok (.iload_n 2, 1) := by decide +kernel
theorem d_M_out_63 : decode b_M_out 63 = .ok (.ireturn, 1) := by decide +kernel
theorem d_M_isJoined_0 : decode b_M_isJoined 0 = .ok (.iconst 1, 1) := by decide +kernel
theorem d_M_isJoined_1 : decode b_M_isJoined 1 = .ok (.iload_n 1, 1) := by decide +kernel
theorem d_M_isJoined_2 : decode b_M_isJoined 2 = .ok (.ishl, 1) := by decide +kernel
theorem d_M_isJoined_3 : decode b_M_isJoined 3 = .ok (.istore 4, 2) := by decide +kernel
theorem d_M_isJoined_5 : decode b_M_isJoined 5 = .ok (.iconst 0, 1) := by decide +kernel
theorem d_M_isJoined_6 : decode b_M_isJoined 6 = .ok (.istore 5, 2) := by decide +kernel
theorem d_M_isJoined_8 : decode b_M_isJoined 8 = .ok (.iload 4, 2) := by decide +kernel
theorem d_M_isJoined_10 : decode b_M_isJoined 10 = .ok (.iload 5, 2) := by decide +kernel
theorem d_M_isJoined_12 : decode b_M_isJoined 12 = .ok (.if_icmp .eq 120, 3) := by decide +kernel
theorem d_M_isJoined_15 : decode b_M_isJoined 15 = .ok (.iload 4, 2) := by decide +kernel
theorem d_M_isJoined_17 : decode b_M_isJoined 17 = .ok (.istore 5, 2) := by decide +kernel
theorem d_M_isJoined_19 : decode b_M_isJoined 19 = .ok (.iconst 0, 1) := by decide +kernel
theorem d_M_isJoined_20 : decode b_M_isJoined 20 = .ok (.istore 6, 2) := by decide +kernel
theorem d_M_isJoined_22 : decode b_M_isJoined 22 = .ok (.iload 6, 2) := by decide +kernel
theorem d_M_isJoined_24 : decode b_M_isJoined 24 = .ok (.aload_n 0, 1) := by decide +kernel
theorem d_M_isJoined_25 : decode b_M_isJoined 25 = .ok (.getfield 73, 3) := by decide +kernel
theorem d_M_isJoined_28 : decode b_M_isJoined 28 = .ok (.if_icmp .ge 101, 3) := by decide +kernel
theorem d_M_isJoined_31 : decode b_M_isJoined 31 = .ok (.aload_n 0, 1) := by decide +kernel
theorem d_M_isJoined_32 : decode b_M_isJoined 32 = .ok (.getfield 22, 3) := by decide +kernel
theorem d_M_isJoined_35 : decode b_M_isJoined 35 = .ok (.iload 6, 2) := by decide +kernel
theorem d_M_isJoined_37 : decode b_M_isJoined 37 = .ok (.baload, 1) := by decide +kernel
theorem d_M_isJoined_38 : decode b_M_isJoined 38 = .ok (.ifCond .ne 59, 3) := by decide +kernel
theorem d_M_isJoined_41 : decode b_M_isJoined 41 = .ok (.iload 4, 2) := by decide +kernel
theorem d_M_isJoined_43 : decode b_M_isJoined 43 = .ok (.aload_n 0, 1) := by decide +kernel
theorem d_M_isJoined_44 : decode b_M_isJoined 44 = .ok (.getfield 7, 3) := by decide +kernel
theorem d_M_isJoined_47 : decode b_M_isJoined 47 = .ok (.iload 6, 2) := by decide +kernel
theorem d_M_isJoined_49 : decode b_M_isJoined 49 = .ok (.iaload, 1) := by decide +kernel
theorem d_M_isJoined_50 : decode b_M_isJoined 50 = .ok (.ishr, 1) := by decide +kernel
theorem d_M_isJoined_51 : decode b_M_isJoined 51 = .ok (.iconst 1, 1) := by decide +kernel
theorem d_M_isJoined_52 : decode b_M_isJoined 52 = .ok (.iand, 1) := by decide +kernel
theorem d_M_isJoined_53 : decode b_M_isJoined 53 = .ok (.iconst 1, 1) := by decide +kernel
theorem d_M_isJoined_54 : decode b_M_isJoined 54 = .ok (.if_icmp .ne 43, 3) := by decide +kernel
theorem d_M_isJoined_57 : decode b_M_isJoined 57 = .ok (.iload_n 3, 1) := by decide +kernel
theorem d_M_isJoined_58 : decode b_M_isJoined 58 = .ok (.aload_n 0, 1) := by decide +kernel
theorem d_M_isJoined_59 : decode b_M_isJoined 59 = .ok (.getfield 13, 3) := by decide +kernel
theorem d_M_isJoined_62 : decode b_M_isJoined 62 = .ok (.iload 6, 2) := by decide +kernel
theorem d_M_isJoined_64 : decode b_M_isJoined 64 = .ok (.iaload, 1) := by decide +kernel
theorem d_M_isJoined_65 : decode b_M_isJoined 65 = .ok (.ishr, 1) := by decide +kernel
theorem d_M_isJoined_66 : decode b_M_isJoined 66 = .ok (.iconst 1, 1) := by decide +kernel
theorem d_M_isJoined_67 : decode b_M_isJoined 67 = .ok (.iand, 1) := by decide +kernel
theorem d_M_isJoined_68 : decode b_M_isJoined 68 = .ok (.ifCond .ne 29, 3) := by decide +kernel
theorem d_M_isJoined_71 : decode b_M_isJoined 71 = .ok (.aload_n 0, 1) := by decide +kernel
theorem d_M_isJoined_72 : decode b_M_isJoined 72 = .ok (.getfield 7, 3) := by decide +kernel
theorem d_M_isJoined_75 : decode b_M_isJoined 75 = .ok (.iload 6, 2) := by decide +kernel
theorem d_M_isJoined_77 : decode b_M_isJoined 77 = .ok (.iaload, 1) := by decide +kernel
theorem d_M_isJoined_78 : decode b_M_isJoined 78 = .ok (.iload_n 1, 1) := by decide +kernel
theorem d_M_isJoined_79 : decode b_M_isJoined 79 = .ok (.if_icmp .ne 14, 3) := by decide +kernel
theorem d_M_isJoined_82 : decode b_M_isJoined 82 = .ok (.aload_n 0, 1) := by decide +kernel
theorem d_M_isJoined_83 : decode b_M_isJoined 83 = .ok (.getfield 13, 3) := by decide +kernel
theorem d_M_isJoined_86 : decode b_M_isJoined 86 = .ok (.iload 6, 2) := by decide +kernel
theorem d_M_isJoined_88 : decode b_M_isJoined 88 = .ok (.iaload, 1) := by decide +kernel
theorem d_M_isJoined_89 : decode b_M_isJoined 89 = .ok (.iload_n 2, 1) := by decide +kernel
theorem d_M_isJoined_90 : decode b_M_isJoined 90 = .ok (.if_icmp .eq 7, 3) := by decide +kernel
theorem d_M_isJoined_93 : decode b_M_isJoined 93 = .ok (.iconst 1, 1) := by decide +kernel
theorem d_M_isJoined_94 : decode b_M_isJoined 94 = .ok (.goto 4, 3) := by decide +kernel
theorem d_M_isJoined_97 : decode b_M_isJoined 97 = .ok (.iconst 0, 1) := by decide +kernel
theorem d_M_isJoined_98 : decode b_M_isJoined 98 = .ok (.istore 7, 2) := by decide +kernel
theorem d_M_isJoined_100 : decode b_M_isJoined 100 = .ok (.iload 4, 2) := by decide +kernel
theorem d_M_isJoined_102 : decode b_M_isJoined 102 = .ok (.iload 7, 2) := by decide +kernel
theorem d_M_isJoined_104 : decode b_M_isJoined 104 = .ok (.ifCond .eq 15, 3) := by decide +kernel
theorem d_M_isJoined_107 : decode b_M_isJoined 107 = .ok (.iconst 1, 1) := by decide +kernel
theorem d_M_isJoined_108 : decode b_M_isJoined 108 = .ok (.aload_n 0, 1) := by decide +kernel
theorem d_M_isJoined_109 : decode b_M_isJoined 109 = .ok (.getfield 13, 3) := by decide +kernel
theorem d_M_isJoined_112 : decode b_M_isJoined 112 = .ok (.iload 6, 2) := by decide +kernel
theorem d_M_isJoined_114 : decode b_M_isJoined 114 = .ok (.iaload, 1) := by decide +kernel
theorem d_M_isJoined_115 : decode b_M_isJoined 115 = .ok (.ishl, 1) := by decide +kernel
theorem d_M_isJoined_116 : decode b_M_isJoined 116 = .ok (.goto 4, 3) := by decide +kernel
theorem d_M_isJoined_119 : decode b_M_isJoined 119 = .ok (.iconst 0, 1) := by decide +kernel
theorem d_M_isJoined_120 : decode b_M_isJoined 120 = .ok (.ior, 1) := by decide +kernel
theorem d_M_isJoined_121 : decode b_M_isJoined 121 = .ok (.istore 4, 2) := by decide +kernel
theorem d_M_isJoined_123 : decode b_M_isJoined 123 = .ok (.iinc 6 1, 3) := by decide +kernel
theorem d_M_isJoined_126 : decode b_M_isJoined 126 = .ok (.goto (-104), 3) := by decide +kernel
theorem d_M_isJoined_129 : decode b_M_isJoined 129 = .ok (.goto (-121), 3) := by decide +kernel
theorem d_M_isJoined_132 : decode b_M_isJoined 132 = .ok (.iload 4, 2) := by decide +kernel
theorem d_M_isJoined_134 : decode b_M_isJoined 134 = .ok (.iload_n 2, 1) := by decide +kernel
theorem d_M_isJoined_135 : decode b_M_isJoined 135 = .ok (.ishr, 1) := by decide +kernel
theorem d_M_isJoined_136 : decode b_M_isJoined 136 = .ok (.iconst 1, 1) := by decide +kernel
theorem d_M_isJoined_137 : decode b_M_isJoined 137 = .ok (.iand, 1) := by decide +kernel
theorem d_M_isJoined_138 : decode b_M_isJoined 138 = .ok (.iconst 1, 1) := by decide +kernel
theorem d_M_isJoined_139 : decode b_M_isJoined 139 = .ok (.if_icmp .ne 7, 3) := by decide +kernel
theorem d_M_isJoined_142 : decode b_M_isJoined 142 = .ok (.iconst 1, 1) := by decide +kernel
theorem d_M_isJoined_143 : decode b_M_isJoined 143 = .ok (.goto 4, 3) := by decide +kernel
theorem d_M_isJoined_146 : decode b_M_isJoined 146 = .ok (.iconst 0, 1) := by decide +kernel
theorem d_M_isJoined_147 : decode b_M_isJoined 147 = .ok (.ireturn, 1) := by decide +kernel
theorem d_M_many_0 : decode b_M_many 0 = .ok (.iconst 0, 1) := by decide +kernel
theorem d_M_many_1 : decode b_M_many 1 = .ok (.istore_n 1, 1) := by decide +kernel
theorem d_M_many_2 : decode b_M_many 2 = .ok (.iconst 0, 1) := by decide +kernel
theorem d_M_many_3 : decode b_M_many 3 = .ok (.istore_n 2, 1) := by decide +kernel
theorem d_M_many_4 : decode b_M_many 4 = .ok (.iload_n 2, 1) := by decide +kernel
theorem d_M_many_5 : decode b_M_many 5 = .ok (.bipush 8, 2) := by decide +kernel
theorem d_M_many_7 : decode b_M_many 7 = .ok (.if_icmp .ge 17, 3) := by decide +kernel
theorem d_M_many_10 : decode b_M_many 10 = .ok (.iload_n 1, 1) := by decide +kernel
theorem d_M_many_11 : decode b_M_many 11 = .ok (.iload_n 0, 1) := by decide +kernel
theorem d_M_many_12 : decode b_M_many 12 = .ok (.iload_n 2, 1) := by decide +kernel
theorem d_M_many_13 : decode b_M_many 13 = .ok (.ishr, 1) := by decide +kernel
theorem d_M_many_14 : decode b_M_many 14 = .ok (.iconst 1, 1) := by decide +kernel
theorem d_M_many_15 : decode b_M_many 15 = .ok (.iand, 1) := by decide +kernel
theorem d_M_many_16 : decode b_M_many 16 = .ok (.iadd, 1) := by decide +kernel
theorem d_M_many_17 : decode b_M_many 17 = .ok (.istore_n 1, 1) := by decide +kernel
theorem d_M_many_18 : decode b_M_many 18 = .ok (.iinc 2 1, 3) := by decide +kernel
theorem d_M_many_21 : decode b_M_many 21 = .ok (.goto (-17), 3) := by decide +kernel
theorem d_M_many_24 : decode b_M_many 24 = .ok (.iload_n 1, 1) := by decide +kernel
theorem d_M_many_25 : decode b_M_many 25 = .ok (.ireturn, 1) := by decide +kernel
theorem d_M_most_0 : decode b_M_most 0 = .ok (.aload_n 0, 1) := by decide +kernel
theorem d_M_most_1 : decode b_M_most 1 = .ok (.iload_n 1, 1) := by decide +kernel
theorem d_M_most_2 : decode b_M_most 2 = .ok (.iload_n 2, 1) := by decide +kernel
theorem d_M_most_3 : decode b_M_most 3 = .ok (.invokevirtual 91, 3) := by decide +kernel
theorem d_M_most_6 : decode b_M_most 6 = .ok (.ifCond .eq 12, 3) := by decide +kernel
theorem d_M_most_9 : decode b_M_most 9 = .ok (.iload_n 3, 1) := by decide +kernel
theorem d_M_most_10 : decode b_M_most 10 = .ok (.iconst 0, 1) := by decide +kernel
theorem d_M_most_11 : decode b_M_most 11 = .ok (.iconst 1, 1) := by decide +kernel
theorem d_M_most_12 : decode b_M_most 12 = .ok (.invokestatic 83, 3) := by decide +kernel
theorem d_M_most_15 : decode b_M_most 15 = .ok (.ifCond .ne 6, 3) := by decide +kernel
theorem d_M_most_18 : decode b_M_most 18 = .ok (.bipush (-2), 2) := by decide +kernel
theorem d_M_most_20 : decode b_M_most 20 = .ok (.ireturn, 1) := by decide +kernel
theorem d_M_most_21 : decode b_M_most 21 = .ok (.bipush 20, 2) := by decide +kernel
theorem d_M_most_23 : decode b_M_most 23 = .ok (.istore 4, 2) := by decide +kernel
theorem d_M_most_25 : decode b_M_most 25 = .ok (.iconst 0, 1) := by decide +kernel
theorem d_M_most_26 : decode b_M_most 26 = .ok (.istore 5, 2) := by decide +kernel
theorem d_M_most_28 : decode b_M_most 28 = .ok (.iconst 0, 1) := by decide +kernel
theorem d_M_most_29 : decode b_M_most 29 = .ok (.istore 6, 2) := by decide +kernel
theorem d_M_most_31 : decode b_M_most 31 = .ok (.iload 6, 2) := by decide +kernel
theorem d_M_most_33 : decode b_M_most 33 = .ok (.aload_n 0, 1) := by decide +kernel
theorem d_M_most_34 : decode b_M_most 34 = .ok (.getfield 73, 3) := by decide +kernel
theorem d_M_most_37 : decode b_M_most 37 = .ok (.if_icmp .ge 51, 3) := by decide +kernel
theorem d_M_most_40 : decode b_M_most 40 = .ok (.iload 5, 2) := by decide +kernel
theorem d_M_most_42 : decode b_M_most 42 = .ok (.aload_n 0, 1) := by decide +kernel
theorem d_M_most_43 : decode b_M_most 43 = .ok (.getfield 22, 3) := by decide +kernel
theorem d_M_most_46 : decode b_M_most 46 = .ok (.iload 6, 2) := by decide +kernel
theorem d_M_most_48 : decode b_M_most 48 = .ok (.baload, 1) := by decide +kernel
theorem d_M_most_49 : decode b_M_most 49 = .ok (.ifCond .ne 29, 3) := by decide +kernel
theorem d_M_most_52 : decode b_M_most 52 = .ok (.aload_n 0, 1) := by decide +kernel
theorem d_M_most_53 : decode b_M_most 53 = .ok (.getfield 7, 3) := by decide +kernel
theorem d_M_most_56 : decode b_M_most 56 = .ok (.iload 6, 2) := by decide +kernel
theorem d_M_most_58 : decode b_M_most 58 = .ok (.iaload, 1) := by decide +kernel
theorem d_M_most_59 : decode b_M_most 59 = .ok (.iload_n 1, 1) := by decide +kernel
theorem d_M_most_60 : decode b_M_most 60 = .ok (.if_icmp .ne 18, 3) := by decide +kernel
theorem d_M_most_63 : decode b_M_most 63 = .ok (.aload_n 0, 1) := by decide +kernel
theorem d_M_most_64 : decode b_M_most 64 = .ok (.getfield 13, 3) := by decide +kernel
theorem d_M_most_67 : decode b_M_most 67 = .ok (.iload 6, 2) := by decide +kernel
theorem d_M_most_69 : decode b_M_most 69 = .ok (.iaload, 1) := by decide +kernel
theorem d_M_most_70 : decode b_M_most 70 = .ok (.iload_n 2, 1) := by decide +kernel
theorem d_M_most_71 : decode b_M_most 71 = .ok (.if_icmp .ne 7, 3) := by decide +kernel
theorem d_M_most_74 : decode b_M_most 74 = .ok (.iconst 1, 1) := by decide +kernel
theorem d_M_most_75 : decode b_M_most 75 = .ok (.goto 4, 3) := by decide +kernel
theorem d_M_most_78 : decode b_M_most 78 = .ok (.iconst 0, 1) := by decide +kernel
theorem d_M_most_79 : decode b_M_most 79 = .ok (.iadd, 1) := by decide +kernel
theorem d_M_most_80 : decode b_M_most 80 = .ok (.istore 5, 2) := by decide +kernel
theorem d_M_most_82 : decode b_M_most 82 = .ok (.iinc 6 1, 3) := by decide +kernel
theorem d_M_most_85 : decode b_M_most 85 = .ok (.goto (-54), 3) := by decide +kernel
theorem d_M_most_88 : decode b_M_most 88 = .ok (.iconst 0, 1) := by decide +kernel
theorem d_M_most_89 : decode b_M_most 89 = .ok (.istore 6, 2) := by decide +kernel
theorem d_M_most_91 : decode b_M_most 91 = .ok (.iload 6, 2) := by decide +kernel
theorem d_M_most_93 : decode b_M_most 93 = .ok (.iconst 1, 1) := by decide +kernel
theorem d_M_most_94 : decode b_M_most 94 = .ok (.aload_n 0, 1) := by decide +kernel
theorem d_M_most_95 : decode b_M_most 95 = .ok (.getfield 69, 3) := by decide +kernel
theorem d_M_most_98 : decode b_M_most 98 = .ok (.ishl, 1) := by decide +kernel
theorem d_M_most_99 : decode b_M_most 99 = .ok (.if_icmp .ge 118, 3) := by decide +kernel
theorem d_M_most_102 : decode b_M_most 102 = .ok (.iload_n 3, 1) := by decide +kernel
theorem d_M_most_103 : decode b_M_most 103 = .ok (.ifCond .ne 46, 3) := by decide +kernel
theorem d_M_most_106 : decode b_M_most 106 = .ok (.iload 6, 2) := by decide +kernel
theorem d_M_most_108 : decode b_M_most 108 = .ok (.iload_n 1, 1) := by decide +kernel
theorem d_M_most_109 : decode b_M_most 109 = .ok (.ishr, 1) := by decide +kernel
theorem d_M_most_110 : decode b_M_most 110 = .ok (.iconst 1, 1) := by decide +kernel
theorem d_M_most_111 : decode b_M_most 111 = .ok (.iand, 1) := by decide +kernel
theorem d_M_most_112 : decode b_M_most 112 = .ok (.iconst 1, 1) := by decide +kernel
theorem d_M_most_113 : decode b_M_most 113 = .ok (.if_icmp .ne 36, 3) := by decide +kernel
theorem d_M_most_116 : decode b_M_most 116 = .ok (.iload 6, 2) := by decide +kernel
theorem d_M_most_118 : decode b_M_most 118 = .ok (.iload_n 2, 1) := by decide +kernel
theorem d_M_most_119 : decode b_M_most 119 = .ok (.ishr, 1) := by decide +kernel
theorem d_M_most_120 : decode b_M_most 120 = .ok (.iconst 1, 1) := by decide +kernel
theorem d_M_most_121 : decode b_M_most 121 = .ok (.iand, 1) := by decide +kernel
theorem d_M_most_122 : decode b_M_most 122 = .ok (.ifCond .ne 27, 3) := by decide +kernel
theorem d_M_most_125 : decode b_M_most 125 = .ok (.aload_n 0, 1) := by decide +kernel
theorem d_M_most_126 : decode b_M_most 126 = .ok (.iload 6, 2) := by decide +kernel
theorem d_M_most_128 : decode b_M_most 128 = .ok (.invokevirtual 134, 3) := by decide +kernel
theorem d_M_most_131 : decode b_M_most 131 = .ok (.iload 4, 2) := by decide +kernel
theorem d_M_most_133 : decode b_M_most 133 = .ok (.if_icmp .ge 12, 3) := by decide +kernel
theorem d_M_most_136 : decode b_M_most 136 = .ok (.aload_n 0, 1) := by decide +kernel
theorem d_M_most_137 : decode b_M_most 137 = .ok (.iload 6, 2) := by decide +kernel
theorem d_M_most_139 : decode b_M_most 139 = .ok (.invokevirtual 134, 3) := by decide +kernel
theorem d_M_most_142 : decode b_M_most 142 = .ok (.goto 5, 3) := by decide +kernel
theorem d_M_most_145 : decode b_M_most 145 = .ok (.iload 4, 2) := by decide +kernel
theorem d_M_most_147 : decode b_M_most 147 = .ok (.istore 4, 2) := by decide +kernel
theorem d_M_most_149 : decode b_M_most 149 = .ok (.iload_n 3, 1) := by decide +kernel
theorem d_M_most_150 : decode b_M_most 150 = .ok (.iconst 1, 1) := by decide +kernel
theorem d_M_most_151 : decode b_M_most 151 = .ok (.if_icmp .ne 60, 3) := by decide +kernel
theorem d_M_most_154 : decode b_M_most 154 = .ok (.iload 6, 2) := by decide +kernel
theorem d_M_most_156 : decode b_M_most 156 = .ok (.iload_n 1, 1) := by decide +kernel
theorem d_M_most_157 : decode b_M_most 157 = .ok (.ishr, 1) := by decide +kernel
theorem d_M_most_158 : decode b_M_most 158 = .ok (.iconst 1, 1) := by decide +kernel
theorem d_M_most_159 : decode b_M_most 159 = .ok (.iand, 1) := by decide +kernel
theorem d_M_most_160 : decode b_M_most 160 = .ok (.ifCond .ne 51, 3) := by decide +kernel
theorem d_M_most_163 : decode b_M_most 163 = .ok (.iload 6, 2) := by decide +kernel
theorem d_M_most_165 : decode b_M_most 165 = .ok (.iload_n 2, 1) := by decide +kernel
theorem d_M_most_166 : decode b_M_most 166 = .ok (.ishr, 1) := by decide +kernel
theorem d_M_most_167 : decode b_M_most 167 = .ok (.iconst 1, 1) := by decide +kernel
theorem d_M_most_168 : decode b_M_most 168 = .ok (.iand, 1) := by decide +kernel
theorem d_M_most_169 : decode b_M_most 169 = .ok (.ifCond .ne 42, 3) := by decide +kernel
theorem d_M_most_172 : decode b_M_most 172 = .ok (.aload_n 0, 1) := by decide +kernel
theorem d_M_most_173 : decode b_M_most 173 = .ok (.iload_n 1, 1) := by decide +kernel
theorem d_M_most_174 : decode b_M_most 174 = .ok (.iload_n 2, 1) := by decide +kernel
theorem d_M_most_175 : decode b_M_most 175 = .ok (.iload 6, 2) := by decide +kernel
theorem d_M_most_177 : decode b_M_most 177 = .ok (.invokevirtual 137, 3) := by decide +kernel
theorem d_M_most_180 : decode b_M_most 180 = .ok (.ifCond .ne 31, 3) := by decide +kernel
theorem d_M_most_183 : decode b_M_most 183 = .ok (.iload 5, 2) := by decide +kernel
theorem d_M_most_185 : decode b_M_most 185 = .ok (.iload 6, 2) := by decide +kernel
theorem d_M_most_187 : decode b_M_most 187 = .ok (.invokestatic 140, 3) := by decide +kernel
theorem d_M_most_190 : decode b_M_most 190 = .ok (.iadd, 1) := by decide +kernel
theorem d_M_most_191 : decode b_M_most 191 = .ok (.iload 4, 2) := by decide +kernel
theorem d_M_most_193 : decode b_M_most 193 = .ok (.if_icmp .ge 14, 3) := by decide +kernel
theorem d_M_most_196 : decode b_M_most 196 = .ok (.iload 5, 2) := by decide +kernel
theorem d_M_most_198 : decode b_M_most 198 = .ok (.iload 6, 2) := by decide +kernel
theorem d_M_most_200 : decode b_M_most 200 = .ok (.invokestatic 140, 3) := by decide +kernel
theorem d_M_most_203 : decode b_M_most 203 = .ok (.iadd, 1) := by decide +kernel
theorem d_M_most_204 : decode b_M_most 204 = .ok (.goto 5, 3) := by decide +kernel
theorem d_M_most_207 : decode b_M_most 207 = .ok (.iload 4, 2) := by decide +kernel
theorem d_M_most_209 : decode b_M_most 209 = .ok (.istore 4, 2) := by decide +kernel
theorem d_M_most_211 : decode b_M_most 211 = .ok (.iinc 6 1, 3) := by decide +kernel
theorem d_M_most_214 : decode b_M_most 214 = .ok (.goto (-123), 3) := by decide +kernel
theorem d_M_most_217 : decode b_M_most 217 = .ok (.iload 4, 2) := by decide +kernel
theorem d_M_most_219 : decode b_M_most 219 = .ok (.ireturn, 1) := by decide +kernel
theorem d_M_within_0 : decode b_M_within 0 = .ok (.aload_n 0, 1) := by decide +kernel
theorem d_M_within_1 : decode b_M_within 1 = .ok (.iload_n 1, 1) := by decide +kernel
theorem d_M_within_2 : decode b_M_within 2 = .ok (.iload_n 2, 1) := by decide +kernel
theorem d_M_within_3 : decode b_M_within 3 = .ok (.invokevirtual 91, 3) := by decide +kernel
theorem d_M_within_6 : decode b_M_within 6 = .ok (.ifCond .eq 14, 3) := by decide +kernel
theorem d_M_within_9 : decode b_M_within 9 = .ok (.iload_n 3, 1) := by decide +kernel
theorem d_M_within_10 : decode b_M_within 10 = .ok (.iconst 0, 1) := by decide +kernel
theorem d_M_within_11 : decode b_M_within 11 = .ok (.sipush 7000, 3) := by decide +kernel
theorem d_M_within_14 : decode b_M_within 14 = .ok (.invokestatic 83, 3) := by decide +kernel
theorem d_M_within_17 : decode b_M_within 17 = .ok (.ifCond .ne 6, 3) := by decide +kernel
theorem d_M_within_20 : decode b_M_within 20 = .ok (.bipush (-2), 2) := by decide +kernel
theorem d_M_within_22 : decode b_M_within 22 = .ok (.ireturn, 1) := by decide +kernel
theorem d_M_within_23 : decode b_M_within 23 = .ok (.aload_n 0, 1) := by decide +kernel
theorem d_M_within_24 : decode b_M_within 24 = .ok (.iload_n 1, 1) := by decide +kernel
theorem d_M_within_25 : decode b_M_within 25 = .ok (.iload_n 2, 1) := by decide +kernel
theorem d_M_within_26 : decode b_M_within 26 = .ok (.invokevirtual 122, 3) := by decide +kernel
theorem d_M_within_29 : decode b_M_within 29 = .ok (.iconst 0, 1) := by decide +kernel
theorem d_M_within_30 : decode b_M_within 30 = .ok (.istore 4, 2) := by decide +kernel
theorem d_M_within_32 : decode b_M_within 32 = .ok (.iload 4, 2) := by decide +kernel
theorem d_M_within_34 : decode b_M_within 34 = .ok (.aload_n 0, 1) := by decide +kernel
theorem d_M_within_35 : decode b_M_within 35 = .ok (.getfield 98, 3) := by decide +kernel
theorem d_M_within_38 : decode b_M_within 38 = .ok (.if_icmp .ge 27, 3) := by decide +kernel
theorem d_M_within_41 : decode b_M_within 41 = .ok (.aload_n 0, 1) := by decide +kernel
theorem d_M_within_42 : decode b_M_within 42 = .ok (.getfield 29, 3) := by decide +kernel
theorem d_M_within_45 : decode b_M_within 45 = .ok (.iload 4, 2) := by decide +kernel
theorem d_M_within_47 : decode b_M_within 47 = .ok (.iaload, 1) := by decide +kernel
theorem d_M_within_48 : decode b_M_within 48 = .ok (.iload_n 3, 1) := by decide +kernel
theorem d_M_within_49 : decode b_M_within 49 = .ok (.if_icmp .gt 10, 3) := by decide +kernel
theorem d_M_within_52 : decode b_M_within 52 = .ok (.aload_n 0, 1) := by decide +kernel
theorem d_M_within_53 : decode b_M_within 53 = .ok (.iload 4, 2) := by decide +kernel
theorem d_M_within_55 : decode b_M_within 55 = .ok (.invokevirtual 126, 3) := by decide +kernel
theorem d_M_within_58 : decode b_M_within 58 = .ok (.ireturn, 1) := by decide +kernel
theorem d_M_within_59 : decode b_M_within 59 = .ok (.iinc 4 1, 3) := by decide +kernel
theorem d_M_within_62 : decode b_M_within 62 = .ok (.goto (-30), 3) := by decide +kernel
theorem d_M_within_65 : decode b_M_within 65 = .ok (.iconst (-1), 1) := by decide +kernel
theorem d_M_within_66 : decode b_M_within 66 = .ok (.ireturn, 1) := by decide +kernel
theorem d_M_isBettered_0 : decode b_M_isBettered 0 = .ok (.iconst 0, 1) := by decide +kernel
theorem d_M_isBettered_1 : decode b_M_isBettered 1 = .ok (.istore_n 2, 1) := by decide +kernel
theorem d_M_isBettered_2 : decode b_M_isBettered 2 = .ok (.iconst 0, 1) := by decide +kernel
theorem d_M_isBettered_3 : decode b_M_isBettered 3 = .ok (.istore_n 3, 1) := by decide +kernel
theorem d_M_isBettered_4 : decode b_M_isBettered 4 = .ok (.iload_n 3, 1) := by decide +kernel
theorem d_M_isBettered_5 : decode b_M_isBettered 5 = .ok (.aload_n 0, 1) := by decide +kernel
theorem d_M_isBettered_6 : decode b_M_isBettered 6 = .ok (.getfield 98, 3) := by decide +kernel
theorem d_M_isBettered_9 : decode b_M_isBettered 9 = .ok (.if_icmp .ge 91, 3) := by decide +kernel
theorem d_M_isBettered_12 : decode b_M_isBettered 12 = .ok (.aload_n 0, 1) := by decide +kernel
theorem d_M_isBettered_13 : decode b_M_isBettered 13 = .ok (.getfield 26, 3) := by decide +kernel
theorem d_M_isBettered_16 : decode b_M_isBettered 16 = .ok (.iload_n 3, 1) := by decide +kernel
theorem d_M_isBettered_17 : decode b_M_isBettered 17 = .ok (.iaload, 1) := by decide +kernel
theorem d_M_isBettered_18 : decode b_M_isBettered 18 = .ok (.aload_n 0, 1) := by decide +kernel
theorem d_M_isBettered_19 : decode b_M_isBettered 19 = .ok (.getfield 26, 3) := by decide +kernel
theorem d_M_isBettered_22 : decode b_M_isBettered 22 = .ok (.iload_n 1, 1) := by decide +kernel
theorem d_M_isBettered_23 : decode b_M_isBettered 23 = .ok (.iaload, 1) := by decide +kernel
theorem d_M_isBettered_24 : decode b_M_isBettered 24 = .ok (.if_icmp .lt 18, 3) := by decide +kernel
theorem d_M_isBettered_27 : decode b_M_isBettered 27 = .ok (.aload_n 0, 1) := by decide +kernel
theorem d_M_isBettered_28 : decode b_M_isBettered 28 = .ok (.getfield 29, 3) := by decide +kernel
theorem d_M_isBettered_31 : decode b_M_isBettered 31 = .ok (.iload_n 3, 1) := by decide +kernel
theorem d_M_isBettered_32 : decode b_M_isBettered 32 = .ok (.iaload, 1) := by decide +kernel
theorem d_M_isBettered_33 : decode b_M_isBettered 33 = .ok (.aload_n 0, 1) := by decide +kernel
theorem d_M_isBettered_34 : decode b_M_isBettered 34 = .ok (.getfield 29, 3) := by decide +kernel
theorem d_M_isBettered_37 : decode b_M_isBettered 37 = .ok (.iload_n 1, 1) := by decide +kernel
theorem d_M_isBettered_38 : decode b_M_isBettered 38 = .ok (.iaload, 1) := by decide +kernel
theorem d_M_isBettered_39 : decode b_M_isBettered 39 = .ok (.if_icmp .ge 7, 3) := by decide +kernel
theorem d_M_isBettered_42 : decode b_M_isBettered 42 = .ok (.iconst 1, 1) := by decide +kernel
theorem d_M_isBettered_43 : decode b_M_isBettered 43 = .ok (.goto 4, 3) := by decide +kernel
theorem d_M_isBettered_46 : decode b_M_isBettered 46 = .ok (.iconst 0, 1) := by decide +kernel
theorem d_M_isBettered_47 : decode b_M_isBettered 47 = .ok (.istore 4, 2) := by decide +kernel
theorem d_M_isBettered_49 : decode b_M_isBettered 49 = .ok (.iload_n 2, 1) := by decide +kernel
theorem d_M_isBettered_50 : decode b_M_isBettered 50 = .ok (.ifCond .ne 38, 3) := by decide +kernel
theorem d_M_isBettered_53 : decode b_M_isBettered 53 = .ok (.iload 4, 2) := by decide +kernel
theorem d_M_isBettered_55 : decode b_M_isBettered 55 = .ok (.ifCond .eq 37, 3) := by decide +kernel
theorem d_M_isBettered_58 : decode b_M_isBettered 58 = .ok (.aload_n 0, 1) := by decide +kernel
theorem d_M_isBettered_59 : decode b_M_isBettered 59 = .ok (.getfield 26, 3) := by decide +kernel
theorem d_M_isBettered_62 : decode b_M_isBettered 62 = .ok (.iload_n 3, 1) := by decide +kernel
theorem d_M_isBettered_63 : decode b_M_isBettered 63 = .ok (.iaload, 1) := by decide +kernel
theorem d_M_isBettered_64 : decode b_M_isBettered 64 = .ok (.aload_n 0, 1) := by decide +kernel
theorem d_M_isBettered_65 : decode b_M_isBettered 65 = .ok (.getfield 26, 3) := by decide +kernel
theorem d_M_isBettered_68 : decode b_M_isBettered 68 = .ok (.iload_n 1, 1) := by decide +kernel
theorem d_M_isBettered_69 : decode b_M_isBettered 69 = .ok (.iaload, 1) := by decide +kernel
theorem d_M_isBettered_70 : decode b_M_isBettered 70 = .ok (.if_icmp .gt 22, 3) := by decide +kernel
theorem d_M_isBettered_73 : decode b_M_isBettered 73 = .ok (.aload_n 0, 1) := by decide +kernel
theorem d_M_isBettered_74 : decode b_M_isBettered 74 = .ok (.getfield 29, 3) := by decide +kernel
theorem d_M_isBettered_77 : decode b_M_isBettered 77 = .ok (.iload_n 3, 1) := by decide +kernel
theorem d_M_isBettered_78 : decode b_M_isBettered 78 = .ok (.iaload, 1) := by decide +kernel
theorem d_M_isBettered_79 : decode b_M_isBettered 79 = .ok (.aload_n 0, 1) := by decide +kernel
theorem d_M_isBettered_80 : decode b_M_isBettered 80 = .ok (.getfield 29, 3) := by decide +kernel
theorem d_M_isBettered_83 : decode b_M_isBettered 83 = .ok (.iload_n 1, 1) := by decide +kernel
theorem d_M_isBettered_84 : decode b_M_isBettered 84 = .ok (.iaload, 1) := by decide +kernel
theorem d_M_isBettered_85 : decode b_M_isBettered 85 = .ok (.if_icmp .gt 7, 3) := by decide +kernel
theorem d_M_isBettered_88 : decode b_M_isBettered 88 = .ok (.iconst 1, 1) := by decide +kernel
theorem d_M_isBettered_89 : decode b_M_isBettered 89 = .ok (.goto 4, 3) := by decide +kernel
theorem d_M_isBettered_92 : decode b_M_isBettered 92 = .ok (.iconst 0, 1) := by decide +kernel
theorem d_M_isBettered_93 : decode b_M_isBettered 93 = .ok (.istore_n 2, 1) := by decide +kernel
theorem d_M_isBettered_94 : decode b_M_isBettered 94 = .ok (.iinc 3 1, 3) := by decide +kernel
theorem d_M_isBettered_97 : decode b_M_isBettered 97 = .ok (.goto (-93), 3) := by decide +kernel
theorem d_M_isBettered_100 : decode b_M_isBettered 100 = .ok (.iload_n 2, 1) := by decide +kernel
theorem d_M_isBettered_101 : decode b_M_isBettered 101 = .ok (.ireturn, 1) := by decide +kernel
theorem d_M_pairs_0 : decode b_M_pairs 0 = .ok (.aload_n 0, 1) := by decide +kernel
theorem d_M_pairs_1 : decode b_M_pairs 1 = .ok (.iload_n 1, 1) := by decide +kernel
theorem d_M_pairs_2 : decode b_M_pairs 2 = .ok (.iload_n 2, 1) := by decide +kernel
theorem d_M_pairs_3 : decode b_M_pairs 3 = .ok (.invokevirtual 91, 3) := by decide +kernel
theorem d_M_pairs_6 : decode b_M_pairs 6 = .ok (.ifCond .ne 6, 3) := by decide +kernel
theorem d_M_pairs_9 : decode b_M_pairs 9 = .ok (.bipush (-2), 2) := by decide +kernel
theorem d_M_pairs_11 : decode b_M_pairs 11 = .ok (.ireturn, 1) := by decide +kernel
theorem d_M_pairs_12 : decode b_M_pairs 12 = .ok (.aload_n 0, 1) := by decide +kernel
theorem d_M_pairs_13 : decode b_M_pairs 13 = .ok (.iload_n 1, 1) := by decide +kernel
theorem d_M_pairs_14 : decode b_M_pairs 14 = .ok (.iload_n 2, 1) := by decide +kernel
theorem d_M_pairs_15 : decode b_M_pairs 15 = .ok (.invokevirtual 122, 3) := by decide +kernel
theorem d_M_pairs_18 : decode b_M_pairs 18 = .ok (.aload_n 0, 1) := by decide +kernel
theorem d_M_pairs_19 : decode b_M_pairs 19 = .ok (.iconst 0, 1) := by decide +kernel
theorem d_M_pairs_20 : decode b_M_pairs 20 = .ok (.putfield 80, 3) := by decide +kernel
theorem d_M_pairs_23 : decode b_M_pairs 23 = .ok (.iconst 0, 1) := by decide +kernel
theorem d_M_pairs_24 : decode b_M_pairs 24 = .ok (.istore_n 3, 1) := by decide +kernel
theorem d_M_pairs_25 : decode b_M_pairs 25 = .ok (.iload_n 3, 1) := by decide +kernel
theorem d_M_pairs_26 : decode b_M_pairs 26 = .ok (.aload_n 0, 1) := by decide +kernel
theorem d_M_pairs_27 : decode b_M_pairs 27 = .ok (.getfield 98, 3) := by decide +kernel
theorem d_M_pairs_30 : decode b_M_pairs 30 = .ok (.if_icmp .ge 129, 3) := by decide +kernel
theorem d_M_pairs_33 : decode b_M_pairs 33 = .ok (.aload_n 0, 1) := by decide +kernel
theorem d_M_pairs_34 : decode b_M_pairs 34 = .ok (.getfield 80, 3) := by decide +kernel
theorem d_M_pairs_37 : decode b_M_pairs 37 = .ok (.ifCond .eq 23, 3) := by decide +kernel
theorem d_M_pairs_40 : decode b_M_pairs 40 = .ok (.aload_n 0, 1) := by decide +kernel
theorem d_M_pairs_41 : decode b_M_pairs 41 = .ok (.getfield 45, 3) := by decide +kernel
theorem d_M_pairs_44 : decode b_M_pairs 44 = .ok (.aload_n 0, 1) := by decide +kernel
theorem d_M_pairs_45 : decode b_M_pairs 45 = .ok (.getfield 80, 3) := by decide +kernel
theorem d_M_pairs_48 : decode b_M_pairs 48 = .ok (.iconst 1, 1) := by decide +kernel
theorem d_M_pairs_49 : decode b_M_pairs 49 = .ok (.isub, 1) := by decide +kernel
theorem d_M_pairs_50 : decode b_M_pairs 50 = .ok (.iaload, 1) := by decide +kernel
theorem d_M_pairs_51 : decode b_M_pairs 51 = .ok (.aload_n 0, 1) := by decide +kernel
theorem d_M_pairs_52 : decode b_M_pairs 52 = .ok (.getfield 26, 3) := by decide +kernel
theorem d_M_pairs_55 : decode b_M_pairs 55 = .ok (.iload_n 3, 1) := by decide +kernel
theorem d_M_pairs_56 : decode b_M_pairs 56 = .ok (.iaload, 1) := by decide +kernel
theorem d_M_pairs_57 : decode b_M_pairs 57 = .ok (.if_icmp .eq 7, 3) := by decide +kernel
theorem d_M_pairs_60 : decode b_M_pairs 60 = .ok (.iconst 1, 1) := by decide +kernel
theorem d_M_pairs_61 : decode b_M_pairs 61 = .ok (.goto 4, 3) := by decide +kernel
theorem d_M_pairs_64 : decode b_M_pairs 64 = .ok (.iconst 0, 1) := by decide +kernel
theorem d_M_pairs_65 : decode b_M_pairs 65 = .ok (.istore 4, 2) := by decide +kernel
theorem d_M_pairs_67 : decode b_M_pairs 67 = .ok (.iload 4, 2) := by decide +kernel
theorem d_M_pairs_69 : decode b_M_pairs 69 = .ok (.ifCond .eq 11, 3) := by decide +kernel
theorem d_M_pairs_72 : decode b_M_pairs 72 = .ok (.aload_n 0, 1) := by decide +kernel
theorem d_M_pairs_73 : decode b_M_pairs 73 = .ok (.iload_n 3, 1) := by decide +kernel
theorem d_M_pairs_74 : decode b_M_pairs 74 = .ok (.invokevirtual 143, 3) := by decide +kernel
theorem d_M_pairs_77 : decode b_M_pairs 77 = .ok (.ifCond .eq 36, 3) := by decide +kernel
theorem d_M_pairs_80 : decode b_M_pairs 80 = .ok (.iload 4, 2) := by decide +kernel
theorem d_M_pairs_82 : decode b_M_pairs 82 = .ok (.ifCond .ne 71, 3) := by decide +kernel
theorem d_M_pairs_85 : decode b_M_pairs 85 = .ok (.aload_n 0, 1) := by decide +kernel
theorem d_M_pairs_86 : decode b_M_pairs 86 = .ok (.getfield 48, 3) := by decide +kernel
theorem d_M_pairs_89 : decode b_M_pairs 89 = .ok (.aload_n 0, 1) := by decide +kernel
theorem d_M_pairs_90 : decode b_M_pairs 90 = .ok (.getfield 80, 3) := by decide +kernel
theorem d_M_pairs_93 : decode b_M_pairs 93 = .ok (.iconst 1, 1) := by decide +kernel
theorem d_M_pairs_94 : decode b_M_pairs 94 = .ok (.isub, 1) := by decide +kernel
theorem d_M_pairs_95 : decode b_M_pairs 95 = .ok (.iaload, 1) := by decide +kernel
theorem d_M_pairs_96 : decode b_M_pairs 96 = .ok (.aload_n 0, 1) := by decide +kernel
theorem d_M_pairs_97 : decode b_M_pairs 97 = .ok (.getfield 29, 3) := by decide +kernel
theorem d_M_pairs_100 : decode b_M_pairs 100 = .ok (.iload_n 3, 1) := by decide +kernel
theorem d_M_pairs_101 : decode b_M_pairs 101 = .ok (.iaload, 1) := by decide +kernel
theorem d_M_pairs_102 : decode b_M_pairs 102 = .ok (.if_icmp .eq 51, 3) := by decide +kernel
theorem d_M_pairs_105 : decode b_M_pairs 105 = .ok (.aload_n 0, 1) := by decide +kernel
theorem d_M_pairs_106 : decode b_M_pairs 106 = .ok (.iload_n 3, 1) := by decide +kernel
theorem d_M_pairs_107 : decode b_M_pairs 107 = .ok (.invokevirtual 143, 3) := by decide +kernel
theorem d_M_pairs_110 : decode b_M_pairs 110 = .ok (.ifCond .ne 43, 3) := by decide +kernel
theorem d_M_pairs_113 : decode b_M_pairs 113 = .ok (.aload_n 0, 1) := by decide +kernel
theorem d_M_pairs_114 : decode b_M_pairs 114 = .ok (.getfield 45, 3) := by decide +kernel
theorem d_M_pairs_117 : decode b_M_pairs 117 = .ok (.aload_n 0, 1) := by decide +kernel
theorem d_M_pairs_118 : decode b_M_pairs 118 = .ok (.getfield 80, 3) := by decide +kernel
theorem d_M_pairs_121 : decode b_M_pairs 121 = .ok (.aload_n 0, 1) := by decide +kernel
theorem d_M_pairs_122 : decode b_M_pairs 122 = .ok (.getfield 26, 3) := by decide +kernel
theorem d_M_pairs_125 : decode b_M_pairs 125 = .ok (.iload_n 3, 1) := by decide +kernel
theorem d_M_pairs_126 : decode b_M_pairs 126 = .ok (.iaload, 1) := by decide +kernel
theorem d_M_pairs_127 : decode b_M_pairs 127 = .ok (.iastore, 1) := by decide +kernel
theorem d_M_pairs_128 : decode b_M_pairs 128 = .ok (.aload_n 0, 1) := by decide +kernel
theorem d_M_pairs_129 : decode b_M_pairs 129 = .ok (.getfield 48, 3) := by decide +kernel
theorem d_M_pairs_132 : decode b_M_pairs 132 = .ok (.aload_n 0, 1) := by decide +kernel
theorem d_M_pairs_133 : decode b_M_pairs 133 = .ok (.getfield 80, 3) := by decide +kernel
theorem d_M_pairs_136 : decode b_M_pairs 136 = .ok (.aload_n 0, 1) := by decide +kernel
theorem d_M_pairs_137 : decode b_M_pairs 137 = .ok (.getfield 29, 3) := by decide +kernel
theorem d_M_pairs_140 : decode b_M_pairs 140 = .ok (.iload_n 3, 1) := by decide +kernel
theorem d_M_pairs_141 : decode b_M_pairs 141 = .ok (.iaload, 1) := by decide +kernel
theorem d_M_pairs_142 : decode b_M_pairs 142 = .ok (.iastore, 1) := by decide +kernel
theorem d_M_pairs_143 : decode b_M_pairs 143 = .ok (.aload_n 0, 1) := by decide +kernel
theorem d_M_pairs_144 : decode b_M_pairs 144 = .ok (.dup, 1) := by decide +kernel
theorem d_M_pairs_145 : decode b_M_pairs 145 = .ok (.getfield 80, 3) := by decide +kernel
theorem d_M_pairs_148 : decode b_M_pairs 148 = .ok (.iconst 1, 1) := by decide +kernel
theorem d_M_pairs_149 : decode b_M_pairs 149 = .ok (.iadd, 1) := by decide +kernel
theorem d_M_pairs_150 : decode b_M_pairs 150 = .ok (.putfield 80, 3) := by decide +kernel
theorem d_M_pairs_153 : decode b_M_pairs 153 = .ok (.iinc 3 1, 3) := by decide +kernel
theorem d_M_pairs_156 : decode b_M_pairs 156 = .ok (.goto (-131), 3) := by decide +kernel
theorem d_M_pairs_159 : decode b_M_pairs 159 = .ok (.aload_n 0, 1) := by decide +kernel
theorem d_M_pairs_160 : decode b_M_pairs 160 = .ok (.getfield 80, 3) := by decide +kernel
theorem d_M_pairs_163 : decode b_M_pairs 163 = .ok (.ireturn, 1) := by decide +kernel
theorem d_M_pair_0 : decode b_M_pair 0 = .ok (.iload_n 1, 1) := by decide +kernel
theorem d_M_pair_1 : decode b_M_pair 1 = .ok (.iconst 0, 1) := by decide +kernel
theorem d_M_pair_2 : decode b_M_pair 2 = .ok (.aload_n 0, 1) := by decide +kernel
theorem d_M_pair_3 : decode b_M_pair 3 = .ok (.getfield 80, 3) := by decide +kernel
theorem d_M_pair_6 : decode b_M_pair 6 = .ok (.iconst 1, 1) := by decide +kernel
theorem d_M_pair_7 : decode b_M_pair 7 = .ok (.isub, 1) := by decide +kernel
theorem d_M_pair_8 : decode b_M_pair 8 = .ok (.invokestatic 83, 3) := by decide +kernel
theorem d_M_pair_11 : decode b_M_pair 11 = .ok (.ifCond .eq 12, 3) := by decide +kernel
theorem d_M_pair_14 : decode b_M_pair 14 = .ok (.iload_n 2, 1) := by decide +kernel
theorem d_M_pair_15 : decode b_M_pair 15 = .ok (.iconst 0, 1) := by decide +kernel
theorem d_M_pair_16 : decode b_M_pair 16 = .ok (.iconst 1, 1) := by decide +kernel
theorem d_M_pair_17 : decode b_M_pair 17 = .ok (.invokestatic 83, 3) := by decide +kernel
theorem d_M_pair_20 : decode b_M_pair 20 = .ok (.ifCond .ne 6, 3) := by decide +kernel
theorem d_M_pair_23 : decode b_M_pair 23 = .ok (.bipush (-2), 2) := by decide +kernel
theorem d_M_pair_25 : decode b_M_pair 25 = .ok (.ireturn, 1) := by decide +kernel
theorem d_M_pair_26 : decode b_M_pair 26 = .ok (.iload_n 2, 1) := by decide +kernel
theorem d_M_pair_27 : decode b_M_pair 27 = .ok (.ifCond .ne 12, 3) := by decide +kernel
theorem d_M_pair_30 : decode b_M_pair 30 = .ok (.aload_n 0, 1) := by decide +kernel
theorem d_M_pair_31 : decode b_M_pair 31 = .ok (.getfield 45, 3) := by decide +kernel
theorem d_M_pair_34 : decode b_M_pair 34 = .ok (.iload_n 1, 1) := by decide +kernel
theorem d_M_pair_35 : decode b_M_pair 35 = .ok (.iaload, 1) := by decide +kernel
theorem d_M_pair_36 : decode b_M_pair 36 = .ok (.goto 9, 3) := by decide +kernel
theorem d_M_pair_39 : decode b_M_pair 39 = .ok (.aload_n 0, 1) := by decide +kernel
theorem d_M_pair_40 : decode b_M_pair 40 = .ok (.getfield 48, 3) := by decide +kernel
theorem d_M_pair_43 : decode b_M_pair 43 = .ok (.iload_n 1, 1) := by decide +kernel
theorem d_M_pair_44 : decode b_M_pair 44 = .ok (.iaload, 1) := by decide +kernel
theorem d_M_pair_45 : decode b_M_pair 45 = .ok (.ireturn, 1) := by decide +kernel
theorem d_M_step_0 : decode b_M_step 0 = .ok (.aload_n 0, 1) := by decide +kernel
theorem d_M_step_1 : decode b_M_step 1 = .ok (.getfield 76, 3) := by decide +kernel
theorem d_M_step_4 : decode b_M_step 4 = .ok (.ifCond .eq 17, 3) := by decide +kernel
theorem d_M_step_7 : decode b_M_step 7 = .ok (.iload_n 1, 1) := by decide +kernel
theorem d_M_step_8 : decode b_M_step 8 = .ok (.iconst 0, 1) := by decide +kernel
theorem d_M_step_9 : decode b_M_step 9 = .ok (.aload_n 0, 1) := by decide +kernel
theorem d_M_step_10 : decode b_M_step 10 = .ok (.getfield 115, 3) := by decide +kernel
theorem d_M_step_13 : decode b_M_step 13 = .ok (.iconst 1, 1) := by decide +kernel
theorem d_M_step_14 : decode b_M_step 14 = .ok (.isub, 1) := by decide +kernel
theorem d_M_step_15 : decode b_M_step 15 = .ok (.invokestatic 83, 3) := by decide +kernel
theorem d_M_step_18 : decode b_M_step 18 = .ok (.ifCond .ne 6, 3) := by decide +kernel
theorem d_M_step_21 : decode b_M_step 21 = .ok (.bipush (-2), 2) := by decide +kernel
theorem d_M_step_23 : decode b_M_step 23 = .ok (.ireturn, 1) := by decide +kernel
theorem d_M_step_24 : decode b_M_step 24 = .ok (.aload_n 0, 1) := by decide +kernel
theorem d_M_step_25 : decode b_M_step 25 = .ok (.getfield 118, 3) := by decide +kernel
theorem d_M_step_28 : decode b_M_step 28 = .ok (.iconst 5, 1) := by decide +kernel
theorem d_M_step_29 : decode b_M_step 29 = .ok (.aload_n 0, 1) := by decide +kernel
theorem d_M_step_30 : decode b_M_step 30 = .ok (.getfield 115, 3) := by decide +kernel
theorem d_M_step_33 : decode b_M_step 33 = .ok (.iconst 1, 1) := by decide +kernel
theorem d_M_step_34 : decode b_M_step 34 = .ok (.isub, 1) := by decide +kernel
theorem d_M_step_35 : decode b_M_step 35 = .ok (.iload_n 1, 1) := by decide +kernel
theorem d_M_step_36 : decode b_M_step 36 = .ok (.isub, 1) := by decide +kernel
theorem d_M_step_37 : decode b_M_step 37 = .ok (.imul, 1) := by decide +kernel
theorem d_M_step_38 : decode b_M_step 38 = .ok (.lshr, 1) := by decide +kernel
theorem d_M_step_39 : decode b_M_step 39 = .ok (.ldc2_w 146, 3) := by decide +kernel
theorem d_M_step_42 : decode b_M_step 42 = .ok (.land, 1) := by decide +kernel
theorem d_M_step_43 : decode b_M_step 43 = .ok (.l2i, 1) := by decide +kernel
theorem d_M_step_44 : decode b_M_step 44 = .ok (.ireturn, 1) := by decide +kernel
theorem d_M_sum_0 : decode b_M_sum 0 = .ok (.iload_n 1, 1) := by decide +kernel
theorem d_M_sum_1 : decode b_M_sum 1 = .ok (.iconst 0, 1) := by decide +kernel
theorem d_M_sum_2 : decode b_M_sum 2 = .ok (.iconst 2, 1) := by decide +kernel
theorem d_M_sum_3 : decode b_M_sum 3 = .ok (.invokestatic 83, 3) := by decide +kernel
theorem d_M_sum_6 : decode b_M_sum 6 = .ok (.ifCond .ne 6, 3) := by decide +kernel
theorem d_M_sum_9 : decode b_M_sum 9 = .ok (.bipush (-2), 2) := by decide +kernel
theorem d_M_sum_11 : decode b_M_sum 11 = .ok (.ireturn, 1) := by decide +kernel
theorem d_M_sum_12 : decode b_M_sum 12 = .ok (.aload_n 0, 1) := by decide +kernel
theorem d_M_sum_13 : decode b_M_sum 13 = .ok (.getfield 76, 3) := by decide +kernel
theorem d_M_sum_16 : decode b_M_sum 16 = .ok (.ifCond .ne 7, 3) := by decide +kernel
theorem d_M_sum_19 : decode b_M_sum 19 = .ok (.iconst (-1), 1) := by decide +kernel
theorem d_M_sum_20 : decode b_M_sum 20 = .ok (.goto 30, 3) := by decide +kernel
theorem d_M_sum_23 : decode b_M_sum 23 = .ok (.iload_n 1, 1) := by decide +kernel
theorem d_M_sum_24 : decode b_M_sum 24 = .ok (.ifCond .ne 10, 3) := by decide +kernel
theorem d_M_sum_27 : decode b_M_sum 27 = .ok (.aload_n 0, 1) := by decide +kernel
theorem d_M_sum_28 : decode b_M_sum 28 = .ok (.getfield 109, 3) := by decide +kernel
theorem d_M_sum_31 : decode b_M_sum 31 = .ok (.goto 19, 3) := by decide +kernel
theorem d_M_sum_34 : decode b_M_sum 34 = .ok (.iload_n 1, 1) := by decide +kernel
theorem d_M_sum_35 : decode b_M_sum 35 = .ok (.iconst 1, 1) := by decide +kernel
theorem d_M_sum_36 : decode b_M_sum 36 = .ok (.if_icmp .ne 10, 3) := by decide +kernel
theorem d_M_sum_39 : decode b_M_sum 39 = .ok (.aload_n 0, 1) := by decide +kernel
theorem d_M_sum_40 : decode b_M_sum 40 = .ok (.getfield 112, 3) := by decide +kernel
theorem d_M_sum_43 : decode b_M_sum 43 = .ok (.goto 7, 3) := by decide +kernel
theorem d_M_sum_46 : decode b_M_sum 46 = .ok (.aload_n 0, 1) := by decide +kernel
theorem d_M_sum_47 : decode b_M_sum 47 = .ok (.getfield 115, 3) := by decide +kernel
theorem d_M_sum_50 : decode b_M_sum 50 = .ok (.ireturn, 1) := by decide +kernel
theorem d_M_told_0 : decode b_M_told 0 = .ok (.aload_n 0, 1) := by decide +kernel
theorem d_M_told_1 : decode b_M_told 1 = .ok (.iload_n 1, 1) := by decide +kernel
theorem d_M_told_2 : decode b_M_told 2 = .ok (.invokevirtual 95, 3) := by decide +kernel
theorem d_M_told_5 : decode b_M_told 5 = .ok (.ifCond .eq 12, 3) := by decide +kernel
theorem d_M_told_8 : decode b_M_told 8 = .ok (.iload_n 2, 1) := by decide +kernel
theorem d_M_told_9 : decode b_M_told 9 = .ok (.iconst 0, 1) := by decide +kernel
theorem d_M_told_10 : decode b_M_told 10 = .ok (.iconst 4, 1) := by decide +kernel
theorem d_M_told_11 : decode b_M_told 11 = .ok (.invokestatic 83, 3) := by decide +kernel
theorem d_M_told_14 : decode b_M_told 14 = .ok (.ifCond .ne 6, 3) := by decide +kernel
theorem d_M_told_17 : decode b_M_told 17 = .ok (.bipush (-2), 2) := by decide +kernel
theorem d_M_told_19 : decode b_M_told 19 = .ok (.ireturn, 1) := by decide +kernel
theorem d_M_told_20 : decode b_M_told 20 = .ok (.iload_n 2, 1) := by decide +kernel
theorem d_M_told_21 : decode b_M_told 21 = .ok (.tableswitch 59 0 3 #[31, 38, 45, 52], 31) := by decide +kernel
theorem d_M_told_52 : decode b_M_told 52 = .ok (.aload_n 0, 1) := by decide +kernel
theorem d_M_told_53 : decode b_M_told 53 = .ok (.getfield 7, 3) := by decide +kernel
theorem d_M_told_56 : decode b_M_told 56 = .ok (.iload_n 1, 1) := by decide +kernel
theorem d_M_told_57 : decode b_M_told 57 = .ok (.iaload, 1) := by decide +kernel
theorem d_M_told_58 : decode b_M_told 58 = .ok (.ireturn, 1) := by decide +kernel
theorem d_M_told_59 : decode b_M_told 59 = .ok (.aload_n 0, 1) := by decide +kernel
theorem d_M_told_60 : decode b_M_told 60 = .ok (.getfield 13, 3) := by decide +kernel
theorem d_M_told_63 : decode b_M_told 63 = .ok (.iload_n 1, 1) := by decide +kernel
theorem d_M_told_64 : decode b_M_told 64 = .ok (.iaload, 1) := by decide +kernel
theorem d_M_told_65 : decode b_M_told 65 = .ok (.ireturn, 1) := by decide +kernel
theorem d_M_told_66 : decode b_M_told 66 = .ok (.aload_n 0, 1) := by decide +kernel
theorem d_M_told_67 : decode b_M_told 67 = .ok (.getfield 16, 3) := by decide +kernel
theorem d_M_told_70 : decode b_M_told 70 = .ok (.iload_n 1, 1) := by decide +kernel
theorem d_M_told_71 : decode b_M_told 71 = .ok (.iaload, 1) := by decide +kernel
theorem d_M_told_72 : decode b_M_told 72 = .ok (.ireturn, 1) := by decide +kernel
theorem d_M_told_73 : decode b_M_told 73 = .ok (.aload_n 0, 1) := by decide +kernel
theorem d_M_told_74 : decode b_M_told 74 = .ok (.getfield 19, 3) := by decide +kernel
theorem d_M_told_77 : decode b_M_told 77 = .ok (.iload_n 1, 1) := by decide +kernel
theorem d_M_told_78 : decode b_M_told 78 = .ok (.iaload, 1) := by decide +kernel
theorem d_M_told_79 : decode b_M_told 79 = .ok (.ireturn, 1) := by decide +kernel
theorem d_M_told_80 : decode b_M_told 80 = .ok (.aload_n 0, 1) := by decide +kernel
theorem d_M_told_81 : decode b_M_told 81 = .ok (.getfield 22, 3) := by decide +kernel
theorem d_M_told_84 : decode b_M_told 84 = .ok (.iload_n 1, 1) := by decide +kernel
theorem d_M_told_85 : decode b_M_told 85 = .ok (.baload, 1) := by decide +kernel
theorem d_M_told_86 : decode b_M_told 86 = .ok (.ifCond .eq 7, 3) := by decide +kernel
theorem d_M_told_89 : decode b_M_told 89 = .ok (.iconst 1, 1) := by decide +kernel
theorem d_M_told_90 : decode b_M_told 90 = .ok (.goto 4, 3) := by decide +kernel
theorem d_M_told_93 : decode b_M_told 93 = .ok (.iconst 0, 1) := by decide +kernel
theorem d_M_told_94 : decode b_M_told 94 = .ok (.ireturn, 1) := by decide +kernel
theorem d_M_of_0 : decode b_M_of 0 = .ok (.iload_n 1, 1) := by decide +kernel
theorem d_M_of_1 : decode b_M_of 1 = .ok (.iconst 0, 1) := by decide +kernel
theorem d_M_of_2 : decode b_M_of 2 = .ok (.iconst 2, 1) := by decide +kernel
theorem d_M_of_3 : decode b_M_of 3 = .ok (.invokestatic 83, 3) := by decide +kernel
theorem d_M_of_6 : decode b_M_of 6 = .ok (.ifCond .ne 6, 3) := by decide +kernel
theorem d_M_of_9 : decode b_M_of 9 = .ok (.bipush (-2), 2) := by decide +kernel
theorem d_M_of_11 : decode b_M_of 11 = .ok (.ireturn, 1) := by decide +kernel
theorem d_M_of_12 : decode b_M_of 12 = .ok (.iload_n 1, 1) := by decide +kernel
theorem d_M_of_13 : decode b_M_of 13 = .ok (.iconst 2, 1) := by decide +kernel
theorem d_M_of_14 : decode b_M_of 14 = .ok (.if_icmp .ge 19, 3) := by decide +kernel
theorem d_M_of_17 : decode b_M_of 17 = .ok (.iload_n 1, 1) := by decide +kernel
theorem d_M_of_18 : decode b_M_of 18 = .ok (.ifCond .ne 10, 3) := by decide +kernel
theorem d_M_of_21 : decode b_M_of 21 = .ok (.aload_n 0, 1) := by decide +kernel
theorem d_M_of_22 : decode b_M_of 22 = .ok (.getfield 69, 3) := by decide +kernel
theorem d_M_of_25 : decode b_M_of 25 = .ok (.goto 7, 3) := by decide +kernel
theorem d_M_of_28 : decode b_M_of 28 = .ok (.aload_n 0, 1) := by decide +kernel
theorem d_M_of_29 : decode b_M_of 29 = .ok (.getfield 73, 3) := by decide +kernel
theorem d_M_of_32 : decode b_M_of 32 = .ok (.ireturn, 1) := by decide +kernel
theorem d_M_of_33 : decode b_M_of 33 = .ok (.iconst 0, 1) := by decide +kernel
theorem d_M_of_34 : decode b_M_of 34 = .ok (.istore_n 2, 1) := by decide +kernel
theorem d_M_of_35 : decode b_M_of 35 = .ok (.iconst 0, 1) := by decide +kernel
theorem d_M_of_36 : decode b_M_of 36 = .ok (.istore_n 3, 1) := by decide +kernel
theorem d_M_of_37 : decode b_M_of 37 = .ok (.iload_n 3, 1) := by decide +kernel
theorem d_M_of_38 : decode b_M_of 38 = .ok (.aload_n 0, 1) := by decide +kernel
theorem d_M_of_39 : decode b_M_of 39 = .ok (.getfield 73, 3) := by decide +kernel
theorem d_M_of_42 : decode b_M_of 42 = .ok (.if_icmp .ge 26, 3) := by decide +kernel
theorem d_M_of_45 : decode b_M_of 45 = .ok (.iload_n 2, 1) := by decide +kernel
theorem d_M_of_46 : decode b_M_of 46 = .ok (.aload_n 0, 1) := by decide +kernel
theorem d_M_of_47 : decode b_M_of 47 = .ok (.getfield 22, 3) := by decide +kernel
theorem d_M_of_50 : decode b_M_of 50 = .ok (.iload_n 3, 1) := by decide +kernel
theorem d_M_of_51 : decode b_M_of 51 = .ok (.baload, 1) := by decide +kernel
theorem d_M_of_52 : decode b_M_of 52 = .ok (.ifCond .eq 7, 3) := by decide +kernel
theorem d_M_of_55 : decode b_M_of 55 = .ok (.iconst 1, 1) := by decide +kernel
theorem d_M_of_56 : decode b_M_of 56 = .ok (.goto 4, 3) := by decide +kernel
theorem d_M_of_59 : decode b_M_of 59 = .ok (.iconst 0, 1) := by decide +kernel
theorem d_M_of_60 : decode b_M_of 60 = .ok (.iadd, 1) := by decide +kernel
theorem d_M_of_61 : decode b_M_of 61 = .ok (.istore_n 2, 1) := by decide +kernel
theorem d_M_of_62 : decode b_M_of 62 = .ok (.iinc 3 1, 3) := by decide +kernel
theorem d_M_of_65 : decode b_M_of 65 = .ok (.goto (-28), 3) := by decide +kernel
theorem d_M_of_68 : decode b_M_of 68 = .ok (.iload_n 2, 1) := by decide +kernel
theorem d_M_of_69 : decode b_M_of 69 = .ok (.ireturn, 1) := by decide +kernel
