theorem dM_thrown_0 : decode cM_thrown 0 = .ok (.aload_n 0, 1) := by decide +kernel
theorem dM_thrown_1 : decode cM_thrown 1 = .ok (.getfield 66, 3) := by decide +kernel
theorem dM_thrown_4 : decode cM_thrown 4 = .ok (.ireturn, 1) := by decide +kernel
theorem dM_place_0 : decode cM_place 0 = .ok (.sipush 144, 3) := by decide +kernel
theorem dM_place_3 : decode cM_place 3 = .ok (.iload_n 0, 1) := by decide +kernel
theorem dM_place_4 : decode cM_place 4 = .ok (.imul, 1) := by decide +kernel
theorem dM_place_5 : decode cM_place 5 = .ok (.bipush 12, 2) := by decide +kernel
theorem dM_place_7 : decode cM_place 7 = .ok (.iload_n 1, 1) := by decide +kernel
theorem dM_place_8 : decode cM_place 8 = .ok (.imul, 1) := by decide +kernel
theorem dM_place_9 : decode cM_place 9 = .ok (.iadd, 1) := by decide +kernel
theorem dM_place_10 : decode cM_place 10 = .ok (.iload_n 2, 1) := by decide +kernel
theorem dM_place_11 : decode cM_place 11 = .ok (.iadd, 1) := by decide +kernel
theorem dM_place_12 : decode cM_place 12 = .ok (.ireturn, 1) := by decide +kernel
theorem dM_ask_0 : decode cM_ask 0 = .ok (.aload_n 0, 1) := by decide +kernel
theorem dM_ask_1 : decode cM_ask 1 = .ok (.aload_n 0, 1) := by decide +kernel
theorem dM_ask_2 : decode cM_ask 2 = .ok (.getfield 70, 3) := by decide +kernel
theorem dM_ask_5 : decode cM_ask 5 = .ok (.putfield 73, 3) := by decide +kernel
theorem dM_ask_8 : decode cM_ask 8 = .ok (.iconst 0, 1) := by decide +kernel
theorem dM_ask_9 : decode cM_ask 9 = .ok (.istore_n 1, 1) := by decide +kernel
theorem dM_ask_10 : decode cM_ask 10 = .ok (.iload_n 1, 1) := by decide +kernel
theorem dM_ask_11 : decode cM_ask 11 = .ok (.aload_n 0, 1) := by decide +kernel
theorem dM_ask_12 : decode cM_ask 12 = .ok (.getfield 70, 3) := by decide +kernel
theorem dM_ask_15 : decode cM_ask 15 = .ok (.if_icmp .ge 57, 3) := by decide +kernel
theorem dM_ask_18 : decode cM_ask 18 = .ok (.aload_n 0, 1) := by decide +kernel
theorem dM_ask_19 : decode cM_ask 19 = .ok (.getfield 54, 3) := by decide +kernel
theorem dM_ask_22 : decode cM_ask 22 = .ok (.iload_n 1, 1) := by decide +kernel
theorem dM_ask_23 : decode cM_ask 23 = .ok (.aload_n 0, 1) := by decide +kernel
theorem dM_ask_24 : decode cM_ask 24 = .ok (.getfield 41, 3) := by decide +kernel
theorem dM_ask_27 : decode cM_ask 27 = .ok (.iload_n 1, 1) := by decide +kernel
theorem dM_ask_28 : decode cM_ask 28 = .ok (.laload, 1) := by decide +kernel
theorem dM_ask_29 : decode cM_ask 29 = .ok (.lastore, 1) := by decide +kernel
theorem dM_ask_30 : decode cM_ask 30 = .ok (.aload_n 0, 1) := by decide +kernel
theorem dM_ask_31 : decode cM_ask 31 = .ok (.getfield 57, 3) := by decide +kernel
theorem dM_ask_34 : decode cM_ask 34 = .ok (.iload_n 1, 1) := by decide +kernel
theorem dM_ask_35 : decode cM_ask 35 = .ok (.aload_n 0, 1) := by decide +kernel
theorem dM_ask_36 : decode cM_ask 36 = .ok (.getfield 45, 3) := by decide +kernel
theorem dM_ask_39 : decode cM_ask 39 = .ok (.iload_n 1, 1) := by decide +kernel
theorem dM_ask_40 : decode cM_ask 40 = .ok (.laload, 1) := by decide +kernel
theorem dM_ask_41 : decode cM_ask 41 = .ok (.lastore, 1) := by decide +kernel
theorem dM_ask_42 : decode cM_ask 42 = .ok (.aload_n 0, 1) := by decide +kernel
theorem dM_ask_43 : decode cM_ask 43 = .ok (.getfield 60, 3) := by decide +kernel
theorem dM_ask_46 : decode cM_ask 46 = .ok (.iload_n 1, 1) := by decide +kernel
theorem dM_ask_47 : decode cM_ask 47 = .ok (.aload_n 0, 1) := by decide +kernel
theorem dM_ask_48 : decode cM_ask 48 = .ok (.getfield 48, 3) := by decide +kernel
theorem dM_ask_51 : decode cM_ask 51 = .ok (.iload_n 1, 1) := by decide +kernel
theorem dM_ask_52 : decode cM_ask 52 = .ok (.laload, 1) := by decide +kernel
theorem dM_ask_53 : decode cM_ask 53 = .ok (.lastore, 1) := by decide +kernel
theorem dM_ask_54 : decode cM_ask 54 = .ok (.aload_n 0, 1) := by decide +kernel
theorem dM_ask_55 : decode cM_ask 55 = .ok (.getfield 63, 3) := by decide +kernel
theorem dM_ask_58 : decode cM_ask 58 = .ok (.iload_n 1, 1) := by decide +kernel
theorem dM_ask_59 : decode cM_ask 59 = .ok (.aload_n 0, 1) := by decide +kernel
theorem dM_ask_60 : decode cM_ask 60 = .ok (.getfield 51, 3) := by decide +kernel
theorem dM_ask_63 : decode cM_ask 63 = .ok (.iload_n 1, 1) := by decide +kernel
theorem dM_ask_64 : decode cM_ask 64 = .ok (.baload, 1) := by decide +kernel
theorem dM_ask_65 : decode cM_ask 65 = .ok (.bastore, 1) := by decide +kernel
theorem dM_ask_66 : decode cM_ask 66 = .ok (.iinc 1 1, 3) := by decide +kernel
theorem dM_ask_69 : decode cM_ask 69 = .ok (.goto (-59), 3) := by decide +kernel
theorem dM_ask_72 : decode cM_ask 72 = .ok (.return_, 1) := by decide +kernel
theorem dM_cross_0 : decode cM_cross 0 = .ok (.aload_n 0, 1) := by decide +kernel
theorem dM_cross_1 : decode cM_cross 1 = .ok (.getfield 54, 3) := by decide +kernel
theorem dM_cross_4 : decode cM_cross 4 = .ok (.iload_n 1, 1) := by decide +kernel
theorem dM_cross_5 : decode cM_cross 5 = .ok (.laload, 1) := by decide +kernel
theorem dM_cross_6 : decode cM_cross 6 = .ok (.aload_n 0, 1) := by decide +kernel
theorem dM_cross_7 : decode cM_cross 7 = .ok (.getfield 57, 3) := by decide +kernel
theorem dM_cross_10 : decode cM_cross 10 = .ok (.iload_n 2, 1) := by decide +kernel
theorem dM_cross_11 : decode cM_cross 11 = .ok (.laload, 1) := by decide +kernel
theorem dM_cross_12 : decode cM_cross 12 = .ok (.lmul, 1) := by decide +kernel
theorem dM_cross_13 : decode cM_cross 13 = .ok (.aload_n 0, 1) := by decide +kernel
theorem dM_cross_14 : decode cM_cross 14 = .ok (.getfield 54, 3) := by decide +kernel
theorem dM_cross_17 : decode cM_cross 17 = .ok (.iload_n 2, 1) := by decide +kernel
theorem dM_cross_18 : decode cM_cross 18 = .ok (.laload, 1) := by decide +kernel
theorem dM_cross_19 : decode cM_cross 19 = .ok (.aload_n 0, 1) := by decide +kernel
theorem dM_cross_20 : decode cM_cross 20 = .ok (.getfield 57, 3) := by decide +kernel
theorem dM_cross_23 : decode cM_cross 23 = .ok (.iload_n 1, 1) := by decide +kernel
theorem dM_cross_24 : decode cM_cross 24 = .ok (.laload, 1) := by decide +kernel
theorem dM_cross_25 : decode cM_cross 25 = .ok (.lmul, 1) := by decide +kernel
theorem dM_cross_26 : decode cM_cross 26 = .ok (.lsub, 1) := by decide +kernel
theorem dM_cross_27 : decode cM_cross 27 = .ok (.lreturn, 1) := by decide +kernel
theorem dM_isBand_0 : decode cM_isBand 0 = .ok (.iconst 1, 1) := by decide +kernel
theorem dM_isBand_1 : decode cM_isBand 1 = .ok (.istore_n 1, 1) := by decide +kernel
theorem dM_isBand_2 : decode cM_isBand 2 = .ok (.iconst 1, 1) := by decide +kernel
theorem dM_isBand_3 : decode cM_isBand 3 = .ok (.istore_n 2, 1) := by decide +kernel
theorem dM_isBand_4 : decode cM_isBand 4 = .ok (.iload_n 2, 1) := by decide +kernel
theorem dM_isBand_5 : decode cM_isBand 5 = .ok (.aload_n 0, 1) := by decide +kernel
theorem dM_isBand_6 : decode cM_isBand 6 = .ok (.getfield 73, 3) := by decide +kernel
theorem dM_isBand_9 : decode cM_isBand 9 = .ok (.if_icmp .ge 30, 3) := by decide +kernel
theorem dM_isBand_12 : decode cM_isBand 12 = .ok (.iload_n 1, 1) := by decide +kernel
theorem dM_isBand_13 : decode cM_isBand 13 = .ok (.ifCond .eq 26, 3) := by decide +kernel
theorem dM_isBand_16 : decode cM_isBand 16 = .ok (.aload_n 0, 1) := by decide +kernel
theorem dM_isBand_17 : decode cM_isBand 17 = .ok (.iconst 0, 1) := by decide +kernel
theorem dM_isBand_18 : decode cM_isBand 18 = .ok (.iload_n 2, 1) := by decide +kernel
theorem dM_isBand_19 : decode cM_isBand 19 = .ok (.invokevirtual 76, 3) := by decide +kernel
theorem dM_isBand_22 : decode cM_isBand 22 = .ok (.lconst 0, 1) := by decide +kernel
theorem dM_isBand_23 : decode cM_isBand 23 = .ok (.lcmp, 1) := by decide +kernel
theorem dM_isBand_24 : decode cM_isBand 24 = .ok (.ifCond .ne 7, 3) := by decide +kernel
theorem dM_isBand_27 : decode cM_isBand 27 = .ok (.iconst 1, 1) := by decide +kernel
theorem dM_isBand_28 : decode cM_isBand 28 = .ok (.goto 4, 3) := by decide +kernel
theorem dM_isBand_31 : decode cM_isBand 31 = .ok (.iconst 0, 1) := by decide +kernel
theorem dM_isBand_32 : decode cM_isBand 32 = .ok (.istore_n 1, 1) := by decide +kernel
theorem dM_isBand_33 : decode cM_isBand 33 = .ok (.iinc 2 1, 3) := by decide +kernel
theorem dM_isBand_36 : decode cM_isBand 36 = .ok (.goto (-32), 3) := by decide +kernel
theorem dM_isBand_39 : decode cM_isBand 39 = .ok (.iload_n 1, 1) := by decide +kernel
theorem dM_isBand_40 : decode cM_isBand 40 = .ok (.ireturn, 1) := by decide +kernel
theorem dM_corner_0 : decode cM_corner 0 = .ok (.aload_n 0, 1) := by decide +kernel
theorem dM_corner_1 : decode cM_corner 1 = .ok (.iload_n 1, 1) := by decide +kernel
theorem dM_corner_2 : decode cM_corner 2 = .ok (.iload_n 2, 1) := by decide +kernel
theorem dM_corner_3 : decode cM_corner 3 = .ok (.invokevirtual 76, 3) := by decide +kernel
theorem dM_corner_6 : decode cM_corner 6 = .ok (.lstore_n 3, 1) := by decide +kernel
theorem dM_corner_7 : decode cM_corner 7 = .ok (.lload_n 3, 1) := by decide +kernel
theorem dM_corner_8 : decode cM_corner 8 = .ok (.lconst 0, 1) := by decide +kernel
theorem dM_corner_9 : decode cM_corner 9 = .ok (.lcmp, 1) := by decide +kernel
theorem dM_corner_10 : decode cM_corner 10 = .ok (.ifCond .ne 5, 3) := by decide +kernel
theorem dM_corner_13 : decode cM_corner 13 = .ok (.iconst 0, 1) := by decide +kernel
theorem dM_corner_14 : decode cM_corner 14 = .ok (.ireturn, 1) := by decide +kernel
theorem dM_corner_15 : decode cM_corner 15 = .ok (.lload_n 3, 1) := by decide +kernel
theorem dM_corner_16 : decode cM_corner 16 = .ok (.lconst 0, 1) := by decide +kernel
theorem dM_corner_17 : decode cM_corner 17 = .ok (.lcmp, 1) := by decide +kernel
theorem dM_corner_18 : decode cM_corner 18 = .ok (.ifCond .ge 9, 3) := by decide +kernel
theorem dM_corner_21 : decode cM_corner 21 = .ok (.ldc2_w 80, 3) := by decide +kernel
theorem dM_corner_24 : decode cM_corner 24 = .ok (.goto 4, 3) := by decide +kernel
theorem dM_corner_27 : decode cM_corner 27 = .ok (.lconst 1, 1) := by decide +kernel
theorem dM_corner_28 : decode cM_corner 28 = .ok (.lstore 5, 2) := by decide +kernel
theorem dM_corner_30 : decode cM_corner 30 = .ok (.aload_n 0, 1) := by decide +kernel
theorem dM_corner_31 : decode cM_corner 31 = .ok (.lload_n 3, 1) := by decide +kernel
theorem dM_corner_32 : decode cM_corner 32 = .ok (.lload 5, 2) := by decide +kernel
theorem dM_corner_34 : decode cM_corner 34 = .ok (.lmul, 1) := by decide +kernel
theorem dM_corner_35 : decode cM_corner 35 = .ok (.putfield 82, 3) := by decide +kernel
theorem dM_corner_38 : decode cM_corner 38 = .ok (.aload_n 0, 1) := by decide +kernel
theorem dM_corner_39 : decode cM_corner 39 = .ok (.aload_n 0, 1) := by decide +kernel
theorem dM_corner_40 : decode cM_corner 40 = .ok (.getfield 60, 3) := by decide +kernel
theorem dM_corner_43 : decode cM_corner 43 = .ok (.iload_n 1, 1) := by decide +kernel
theorem dM_corner_44 : decode cM_corner 44 = .ok (.laload, 1) := by decide +kernel
theorem dM_corner_45 : decode cM_corner 45 = .ok (.aload_n 0, 1) := by decide +kernel
theorem dM_corner_46 : decode cM_corner 46 = .ok (.getfield 57, 3) := by decide +kernel
theorem dM_corner_49 : decode cM_corner 49 = .ok (.iload_n 2, 1) := by decide +kernel
theorem dM_corner_50 : decode cM_corner 50 = .ok (.laload, 1) := by decide +kernel
theorem dM_corner_51 : decode cM_corner 51 = .ok (.lmul, 1) := by decide +kernel
theorem dM_corner_52 : decode cM_corner 52 = .ok (.aload_n 0, 1) := by decide +kernel
theorem dM_corner_53 : decode cM_corner 53 = .ok (.getfield 60, 3) := by decide +kernel
theorem dM_corner_56 : decode cM_corner 56 = .ok (.iload_n 2, 1) := by decide +kernel
theorem dM_corner_57 : decode cM_corner 57 = .ok (.laload, 1) := by decide +kernel
theorem dM_corner_58 : decode cM_corner 58 = .ok (.aload_n 0, 1) := by decide +kernel
theorem dM_corner_59 : decode cM_corner 59 = .ok (.getfield 57, 3) := by decide +kernel
theorem dM_corner_62 : decode cM_corner 62 = .ok (.iload_n 1, 1) := by decide +kernel
theorem dM_corner_63 : decode cM_corner 63 = .ok (.laload, 1) := by decide +kernel
theorem dM_corner_64 : decode cM_corner 64 = .ok (.lmul, 1) := by decide +kernel
theorem dM_corner_65 : decode cM_corner 65 = .ok (.lsub, 1) := by decide +kernel
theorem dM_corner_66 : decode cM_corner 66 = .ok (.lload 5, 2) := by decide +kernel
theorem dM_corner_68 : decode cM_corner 68 = .ok (.lmul, 1) := by decide +kernel
theorem dM_corner_69 : decode cM_corner 69 = .ok (.putfield 86, 3) := by decide +kernel
theorem dM_corner_72 : decode cM_corner 72 = .ok (.aload_n 0, 1) := by decide +kernel
theorem dM_corner_73 : decode cM_corner 73 = .ok (.aload_n 0, 1) := by decide +kernel
theorem dM_corner_74 : decode cM_corner 74 = .ok (.getfield 54, 3) := by decide +kernel
theorem dM_corner_77 : decode cM_corner 77 = .ok (.iload_n 1, 1) := by decide +kernel
theorem dM_corner_78 : decode cM_corner 78 = .ok (.laload, 1) := by decide +kernel
theorem dM_corner_79 : decode cM_corner 79 = .ok (.aload_n 0, 1) := by decide +kernel
theorem dM_corner_80 : decode cM_corner 80 = .ok (.getfield 60, 3) := by decide +kernel
theorem dM_corner_83 : decode cM_corner 83 = .ok (.iload_n 2, 1) := by decide +kernel
theorem dM_corner_84 : decode cM_corner 84 = .ok (.laload, 1) := by decide +kernel
theorem dM_corner_85 : decode cM_corner 85 = .ok (.lmul, 1) := by decide +kernel
theorem dM_corner_86 : decode cM_corner 86 = .ok (.aload_n 0, 1) := by decide +kernel
theorem dM_corner_87 : decode cM_corner 87 = .ok (.getfield 54, 3) := by decide +kernel
theorem dM_corner_90 : decode cM_corner 90 = .ok (.iload_n 2, 1) := by decide +kernel
theorem dM_corner_91 : decode cM_corner 91 = .ok (.laload, 1) := by decide +kernel
theorem dM_corner_92 : decode cM_corner 92 = .ok (.aload_n 0, 1) := by decide +kernel
theorem dM_corner_93 : decode cM_corner 93 = .ok (.getfield 60, 3) := by decide +kernel
theorem dM_corner_96 : decode cM_corner 96 = .ok (.iload_n 1, 1) := by decide +kernel
theorem dM_corner_97 : decode cM_corner 97 = .ok (.laload, 1) := by decide +kernel
theorem dM_corner_98 : decode cM_corner 98 = .ok (.lmul, 1) := by decide +kernel
theorem dM_corner_99 : decode cM_corner 99 = .ok (.lsub, 1) := by decide +kernel
theorem dM_corner_100 : decode cM_corner 100 = .ok (.lload 5, 2) := by decide +kernel
theorem dM_corner_102 : decode cM_corner 102 = .ok (.lmul, 1) := by decide +kernel
theorem dM_corner_103 : decode cM_corner 103 = .ok (.putfield 89, 3) := by decide +kernel
theorem dM_corner_106 : decode cM_corner 106 = .ok (.iconst 1, 1) := by decide +kernel
theorem dM_corner_107 : decode cM_corner 107 = .ok (.istore 7, 2) := by decide +kernel
theorem dM_corner_109 : decode cM_corner 109 = .ok (.iconst 0, 1) := by decide +kernel
theorem dM_corner_110 : decode cM_corner 110 = .ok (.istore 8, 2) := by decide +kernel
theorem dM_corner_112 : decode cM_corner 112 = .ok (.iload 8, 2) := by decide +kernel
theorem dM_corner_114 : decode cM_corner 114 = .ok (.aload_n 0, 1) := by decide +kernel
theorem dM_corner_115 : decode cM_corner 115 = .ok (.getfield 73, 3) := by decide +kernel
theorem dM_corner_118 : decode cM_corner 118 = .ok (.if_icmp .ge 62, 3) := by decide +kernel
theorem dM_corner_121 : decode cM_corner 121 = .ok (.iload 7, 2) := by decide +kernel
theorem dM_corner_123 : decode cM_corner 123 = .ok (.ifCond .eq 57, 3) := by decide +kernel
theorem dM_corner_126 : decode cM_corner 126 = .ok (.aload_n 0, 1) := by decide +kernel
theorem dM_corner_127 : decode cM_corner 127 = .ok (.getfield 54, 3) := by decide +kernel
theorem dM_corner_130 : decode cM_corner 130 = .ok (.iload 8, 2) := by decide +kernel
theorem dM_corner_132 : decode cM_corner 132 = .ok (.laload, 1) := by decide +kernel
theorem dM_corner_133 : decode cM_corner 133 = .ok (.aload_n 0, 1) := by decide +kernel
theorem dM_corner_134 : decode cM_corner 134 = .ok (.getfield 86, 3) := by decide +kernel
theorem dM_corner_137 : decode cM_corner 137 = .ok (.lmul, 1) := by decide +kernel
theorem dM_corner_138 : decode cM_corner 138 = .ok (.aload_n 0, 1) := by decide +kernel
theorem dM_corner_139 : decode cM_corner 139 = .ok (.getfield 57, 3) := by decide +kernel
theorem dM_corner_142 : decode cM_corner 142 = .ok (.iload 8, 2) := by decide +kernel
theorem dM_corner_144 : decode cM_corner 144 = .ok (.laload, 1) := by decide +kernel
theorem dM_corner_145 : decode cM_corner 145 = .ok (.aload_n 0, 1) := by decide +kernel
theorem dM_corner_146 : decode cM_corner 146 = .ok (.getfield 89, 3) := by decide +kernel
theorem dM_corner_149 : decode cM_corner 149 = .ok (.lmul, 1) := by decide +kernel
theorem dM_corner_150 : decode cM_corner 150 = .ok (.ladd, 1) := by decide +kernel
theorem dM_corner_151 : decode cM_corner 151 = .ok (.aload_n 0, 1) := by decide +kernel
theorem dM_corner_152 : decode cM_corner 152 = .ok (.getfield 60, 3) := by decide +kernel
theorem dM_corner_155 : decode cM_corner 155 = .ok (.iload 8, 2) := by decide +kernel
theorem dM_corner_157 : decode cM_corner 157 = .ok (.laload, 1) := by decide +kernel
theorem dM_corner_158 : decode cM_corner 158 = .ok (.aload_n 0, 1) := by decide +kernel
theorem dM_corner_159 : decode cM_corner 159 = .ok (.getfield 82, 3) := by decide +kernel
theorem dM_corner_162 : decode cM_corner 162 = .ok (.lmul, 1) := by decide +kernel
theorem dM_corner_163 : decode cM_corner 163 = .ok (.lcmp, 1) := by decide +kernel
theorem dM_corner_164 : decode cM_corner 164 = .ok (.ifCond .gt 7, 3) := by decide +kernel
theorem dM_corner_167 : decode cM_corner 167 = .ok (.iconst 1, 1) := by decide +kernel
theorem dM_corner_168 : decode cM_corner 168 = .ok (.goto 4, 3) := by decide +kernel
theorem dM_corner_171 : decode cM_corner 171 = .ok (.iconst 0, 1) := by decide +kernel
theorem dM_corner_172 : decode cM_corner 172 = .ok (.istore 7, 2) := by decide +kernel
theorem dM_corner_174 : decode cM_corner 174 = .ok (.iinc 8 1, 3) := by decide +kernel
theorem dM_corner_177 : decode cM_corner 177 = .ok (.goto (-65), 3) := by decide +kernel
theorem dM_corner_180 : decode cM_corner 180 = .ok (.iload 7, 2) := by decide +kernel
theorem dM_corner_182 : decode cM_corner 182 = .ok (.ireturn, 1) := by decide +kernel
theorem dM_way_0 : decode cM_way 0 = .ok (.aload_n 0, 1) := by decide +kernel
theorem dM_way_1 : decode cM_way 1 = .ok (.iload_n 2, 1) := by decide +kernel
theorem dM_way_2 : decode cM_way 2 = .ok (.ifCond .eq 13, 3) := by decide +kernel
theorem dM_way_5 : decode cM_way 5 = .ok (.aload_n 0, 1) := by decide +kernel
theorem dM_way_6 : decode cM_way 6 = .ok (.getfield 57, 3) := by decide +kernel
theorem dM_way_9 : decode cM_way 9 = .ok (.iload_n 1, 1) := by decide +kernel
theorem dM_way_10 : decode cM_way 10 = .ok (.laload, 1) := by decide +kernel
theorem dM_way_11 : decode cM_way 11 = .ok (.lneg, 1) := by decide +kernel
theorem dM_way_12 : decode cM_way 12 = .ok (.goto 9, 3) := by decide +kernel
theorem dM_way_15 : decode cM_way 15 = .ok (.aload_n 0, 1) := by decide +kernel
theorem dM_way_16 : decode cM_way 16 = .ok (.getfield 57, 3) := by decide +kernel
theorem dM_way_19 : decode cM_way 19 = .ok (.iload_n 1, 1) := by decide +kernel
theorem dM_way_20 : decode cM_way 20 = .ok (.laload, 1) := by decide +kernel
theorem dM_way_21 : decode cM_way 21 = .ok (.putfield 92, 3) := by decide +kernel
theorem dM_way_24 : decode cM_way 24 = .ok (.aload_n 0, 1) := by decide +kernel
theorem dM_way_25 : decode cM_way 25 = .ok (.iload_n 2, 1) := by decide +kernel
theorem dM_way_26 : decode cM_way 26 = .ok (.ifCond .eq 12, 3) := by decide +kernel
theorem dM_way_29 : decode cM_way 29 = .ok (.aload_n 0, 1) := by decide +kernel
theorem dM_way_30 : decode cM_way 30 = .ok (.getfield 54, 3) := by decide +kernel
theorem dM_way_33 : decode cM_way 33 = .ok (.iload_n 1, 1) := by decide +kernel
theorem dM_way_34 : decode cM_way 34 = .ok (.laload, 1) := by decide +kernel
theorem dM_way_35 : decode cM_way 35 = .ok (.goto 10, 3) := by decide +kernel
theorem dM_way_38 : decode cM_way 38 = .ok (.aload_n 0, 1) := by decide +kernel
theorem dM_way_39 : decode cM_way 39 = .ok (.getfield 54, 3) := by decide +kernel
theorem dM_way_42 : decode cM_way 42 = .ok (.iload_n 1, 1) := by decide +kernel
theorem dM_way_43 : decode cM_way 43 = .ok (.laload, 1) := by decide +kernel
theorem dM_way_44 : decode cM_way 44 = .ok (.lneg, 1) := by decide +kernel
theorem dM_way_45 : decode cM_way 45 = .ok (.putfield 95, 3) := by decide +kernel
theorem dM_way_48 : decode cM_way 48 = .ok (.iconst 1, 1) := by decide +kernel
theorem dM_way_49 : decode cM_way 49 = .ok (.istore_n 3, 1) := by decide +kernel
theorem dM_way_50 : decode cM_way 50 = .ok (.iconst 0, 1) := by decide +kernel
theorem dM_way_51 : decode cM_way 51 = .ok (.istore 4, 2) := by decide +kernel
theorem dM_way_53 : decode cM_way 53 = .ok (.iload 4, 2) := by decide +kernel
theorem dM_way_55 : decode cM_way 55 = .ok (.aload_n 0, 1) := by decide +kernel
theorem dM_way_56 : decode cM_way 56 = .ok (.getfield 73, 3) := by decide +kernel
theorem dM_way_59 : decode cM_way 59 = .ok (.if_icmp .ge 49, 3) := by decide +kernel
theorem dM_way_62 : decode cM_way 62 = .ok (.iload_n 3, 1) := by decide +kernel
theorem dM_way_63 : decode cM_way 63 = .ok (.ifCond .eq 45, 3) := by decide +kernel
theorem dM_way_66 : decode cM_way 66 = .ok (.aload_n 0, 1) := by decide +kernel
theorem dM_way_67 : decode cM_way 67 = .ok (.getfield 54, 3) := by decide +kernel
theorem dM_way_70 : decode cM_way 70 = .ok (.iload 4, 2) := by decide +kernel
theorem dM_way_72 : decode cM_way 72 = .ok (.laload, 1) := by decide +kernel
theorem dM_way_73 : decode cM_way 73 = .ok (.aload_n 0, 1) := by decide +kernel
theorem dM_way_74 : decode cM_way 74 = .ok (.getfield 92, 3) := by decide +kernel
theorem dM_way_77 : decode cM_way 77 = .ok (.lmul, 1) := by decide +kernel
theorem dM_way_78 : decode cM_way 78 = .ok (.aload_n 0, 1) := by decide +kernel
theorem dM_way_79 : decode cM_way 79 = .ok (.getfield 57, 3) := by decide +kernel
theorem dM_way_82 : decode cM_way 82 = .ok (.iload 4, 2) := by decide +kernel
theorem dM_way_84 : decode cM_way 84 = .ok (.laload, 1) := by decide +kernel
theorem dM_way_85 : decode cM_way 85 = .ok (.aload_n 0, 1) := by decide +kernel
theorem dM_way_86 : decode cM_way 86 = .ok (.getfield 95, 3) := by decide +kernel
theorem dM_way_89 : decode cM_way 89 = .ok (.lmul, 1) := by decide +kernel
theorem dM_way_90 : decode cM_way 90 = .ok (.ladd, 1) := by decide +kernel
theorem dM_way_91 : decode cM_way 91 = .ok (.lconst 0, 1) := by decide +kernel
theorem dM_way_92 : decode cM_way 92 = .ok (.lcmp, 1) := by decide +kernel
theorem dM_way_93 : decode cM_way 93 = .ok (.ifCond .gt 7, 3) := by decide +kernel
theorem dM_way_96 : decode cM_way 96 = .ok (.iconst 1, 1) := by decide +kernel
theorem dM_way_97 : decode cM_way 97 = .ok (.goto 4, 3) := by decide +kernel
theorem dM_way_100 : decode cM_way 100 = .ok (.iconst 0, 1) := by decide +kernel
theorem dM_way_101 : decode cM_way 101 = .ok (.istore_n 3, 1) := by decide +kernel
theorem dM_way_102 : decode cM_way 102 = .ok (.iinc 4 1, 3) := by decide +kernel
theorem dM_way_105 : decode cM_way 105 = .ok (.goto (-52), 3) := by decide +kernel
theorem dM_way_108 : decode cM_way 108 = .ok (.iload_n 3, 1) := by decide +kernel
theorem dM_way_109 : decode cM_way 109 = .ok (.ireturn, 1) := by decide +kernel
theorem dM_inCorner_0 : decode cM_inCorner 0 = .ok (.lconst 0, 1) := by decide +kernel
theorem dM_inCorner_1 : decode cM_inCorner 1 = .ok (.lstore_n 1, 1) := by decide +kernel
theorem dM_inCorner_2 : decode cM_inCorner 2 = .ok (.iconst 0, 1) := by decide +kernel
theorem dM_inCorner_3 : decode cM_inCorner 3 = .ok (.istore_n 3, 1) := by decide +kernel
theorem dM_inCorner_4 : decode cM_inCorner 4 = .ok (.iload_n 3, 1) := by decide +kernel
theorem dM_inCorner_5 : decode cM_inCorner 5 = .ok (.aload_n 0, 1) := by decide +kernel
theorem dM_inCorner_6 : decode cM_inCorner 6 = .ok (.getfield 73, 3) := by decide +kernel
theorem dM_inCorner_9 : decode cM_inCorner 9 = .ok (.if_icmp .ge 62, 3) := by decide +kernel
theorem dM_inCorner_12 : decode cM_inCorner 12 = .ok (.aload_n 0, 1) := by decide +kernel
theorem dM_inCorner_13 : decode cM_inCorner 13 = .ok (.getfield 63, 3) := by decide +kernel
theorem dM_inCorner_16 : decode cM_inCorner 16 = .ok (.iload_n 3, 1) := by decide +kernel
theorem dM_inCorner_17 : decode cM_inCorner 17 = .ok (.baload, 1) := by decide +kernel
theorem dM_inCorner_18 : decode cM_inCorner 18 = .ok (.ifCond .eq 47, 3) := by decide +kernel
theorem dM_inCorner_21 : decode cM_inCorner 21 = .ok (.aload_n 0, 1) := by decide +kernel
theorem dM_inCorner_22 : decode cM_inCorner 22 = .ok (.getfield 54, 3) := by decide +kernel
theorem dM_inCorner_25 : decode cM_inCorner 25 = .ok (.iload_n 3, 1) := by decide +kernel
theorem dM_inCorner_26 : decode cM_inCorner 26 = .ok (.laload, 1) := by decide +kernel
theorem dM_inCorner_27 : decode cM_inCorner 27 = .ok (.aload_n 0, 1) := by decide +kernel
theorem dM_inCorner_28 : decode cM_inCorner 28 = .ok (.getfield 86, 3) := by decide +kernel
theorem dM_inCorner_31 : decode cM_inCorner 31 = .ok (.lmul, 1) := by decide +kernel
theorem dM_inCorner_32 : decode cM_inCorner 32 = .ok (.aload_n 0, 1) := by decide +kernel
theorem dM_inCorner_33 : decode cM_inCorner 33 = .ok (.getfield 57, 3) := by decide +kernel
theorem dM_inCorner_36 : decode cM_inCorner 36 = .ok (.iload_n 3, 1) := by decide +kernel
theorem dM_inCorner_37 : decode cM_inCorner 37 = .ok (.laload, 1) := by decide +kernel
theorem dM_inCorner_38 : decode cM_inCorner 38 = .ok (.aload_n 0, 1) := by decide +kernel
theorem dM_inCorner_39 : decode cM_inCorner 39 = .ok (.getfield 89, 3) := by decide +kernel
theorem dM_inCorner_42 : decode cM_inCorner 42 = .ok (.lmul, 1) := by decide +kernel
theorem dM_inCorner_43 : decode cM_inCorner 43 = .ok (.ladd, 1) := by decide +kernel
theorem dM_inCorner_44 : decode cM_inCorner 44 = .ok (.aload_n 0, 1) := by decide +kernel
theorem dM_inCorner_45 : decode cM_inCorner 45 = .ok (.getfield 60, 3) := by decide +kernel
theorem dM_inCorner_48 : decode cM_inCorner 48 = .ok (.iload_n 3, 1) := by decide +kernel
theorem dM_inCorner_49 : decode cM_inCorner 49 = .ok (.laload, 1) := by decide +kernel
theorem dM_inCorner_50 : decode cM_inCorner 50 = .ok (.aload_n 0, 1) := by decide +kernel
theorem dM_inCorner_51 : decode cM_inCorner 51 = .ok (.getfield 82, 3) := by decide +kernel
theorem dM_inCorner_54 : decode cM_inCorner 54 = .ok (.lmul, 1) := by decide +kernel
theorem dM_inCorner_55 : decode cM_inCorner 55 = .ok (.lcmp, 1) := by decide +kernel
theorem dM_inCorner_56 : decode cM_inCorner 56 = .ok (.ifCond .ge 9, 3) := by decide +kernel
theorem dM_inCorner_59 : decode cM_inCorner 59 = .ok (.lload_n 1, 1) := by decide +kernel
theorem dM_inCorner_60 : decode cM_inCorner 60 = .ok (.lconst 1, 1) := by decide +kernel
theorem dM_inCorner_61 : decode cM_inCorner 61 = .ok (.iload_n 3, 1) := by decide +kernel
theorem dM_inCorner_62 : decode cM_inCorner 62 = .ok (.lshl, 1) := by decide +kernel
theorem dM_inCorner_63 : decode cM_inCorner 63 = .ok (.lor, 1) := by decide +kernel
theorem dM_inCorner_64 : decode cM_inCorner 64 = .ok (.lstore_n 1, 1) := by decide +kernel
theorem dM_inCorner_65 : decode cM_inCorner 65 = .ok (.iinc 3 1, 3) := by decide +kernel
theorem dM_inCorner_68 : decode cM_inCorner 68 = .ok (.goto (-64), 3) := by decide +kernel
theorem dM_inCorner_71 : decode cM_inCorner 71 = .ok (.lload_n 1, 1) := by decide +kernel
theorem dM_inCorner_72 : decode cM_inCorner 72 = .ok (.lreturn, 1) := by decide +kernel
theorem dM_inWay_0 : decode cM_inWay 0 = .ok (.lconst 0, 1) := by decide +kernel
theorem dM_inWay_1 : decode cM_inWay 1 = .ok (.lstore_n 1, 1) := by decide +kernel
theorem dM_inWay_2 : decode cM_inWay 2 = .ok (.iconst 0, 1) := by decide +kernel
theorem dM_inWay_3 : decode cM_inWay 3 = .ok (.istore_n 3, 1) := by decide +kernel
theorem dM_inWay_4 : decode cM_inWay 4 = .ok (.iload_n 3, 1) := by decide +kernel
theorem dM_inWay_5 : decode cM_inWay 5 = .ok (.aload_n 0, 1) := by decide +kernel
theorem dM_inWay_6 : decode cM_inWay 6 = .ok (.getfield 73, 3) := by decide +kernel
theorem dM_inWay_9 : decode cM_inWay 9 = .ok (.if_icmp .ge 52, 3) := by decide +kernel
theorem dM_inWay_12 : decode cM_inWay 12 = .ok (.aload_n 0, 1) := by decide +kernel
theorem dM_inWay_13 : decode cM_inWay 13 = .ok (.getfield 63, 3) := by decide +kernel
theorem dM_inWay_16 : decode cM_inWay 16 = .ok (.iload_n 3, 1) := by decide +kernel
theorem dM_inWay_17 : decode cM_inWay 17 = .ok (.baload, 1) := by decide +kernel
theorem dM_inWay_18 : decode cM_inWay 18 = .ok (.ifCond .eq 37, 3) := by decide +kernel
theorem dM_inWay_21 : decode cM_inWay 21 = .ok (.aload_n 0, 1) := by decide +kernel
theorem dM_inWay_22 : decode cM_inWay 22 = .ok (.getfield 54, 3) := by decide +kernel
theorem dM_inWay_25 : decode cM_inWay 25 = .ok (.iload_n 3, 1) := by decide +kernel
theorem dM_inWay_26 : decode cM_inWay 26 = .ok (.laload, 1) := by decide +kernel
theorem dM_inWay_27 : decode cM_inWay 27 = .ok (.aload_n 0, 1) := by decide +kernel
theorem dM_inWay_28 : decode cM_inWay 28 = .ok (.getfield 92, 3) := by decide +kernel
theorem dM_inWay_31 : decode cM_inWay 31 = .ok (.lmul, 1) := by decide +kernel
theorem dM_inWay_32 : decode cM_inWay 32 = .ok (.aload_n 0, 1) := by decide +kernel
theorem dM_inWay_33 : decode cM_inWay 33 = .ok (.getfield 57, 3) := by decide +kernel
theorem dM_inWay_36 : decode cM_inWay 36 = .ok (.iload_n 3, 1) := by decide +kernel
theorem dM_inWay_37 : decode cM_inWay 37 = .ok (.laload, 1) := by decide +kernel
theorem dM_inWay_38 : decode cM_inWay 38 = .ok (.aload_n 0, 1) := by decide +kernel
theorem dM_inWay_39 : decode cM_inWay 39 = .ok (.getfield 95, 3) := by decide +kernel
theorem dM_inWay_42 : decode cM_inWay 42 = .ok (.lmul, 1) := by decide +kernel
theorem dM_inWay_43 : decode cM_inWay 43 = .ok (.ladd, 1) := by decide +kernel
theorem dM_inWay_44 : decode cM_inWay 44 = .ok (.lconst 0, 1) := by decide +kernel
theorem dM_inWay_45 : decode cM_inWay 45 = .ok (.lcmp, 1) := by decide +kernel
theorem dM_inWay_46 : decode cM_inWay 46 = .ok (.ifCond .ge 9, 3) := by decide +kernel
theorem dM_inWay_49 : decode cM_inWay 49 = .ok (.lload_n 1, 1) := by decide +kernel
theorem dM_inWay_50 : decode cM_inWay 50 = .ok (.lconst 1, 1) := by decide +kernel
theorem dM_inWay_51 : decode cM_inWay 51 = .ok (.iload_n 3, 1) := by decide +kernel
theorem dM_inWay_52 : decode cM_inWay 52 = .ok (.lshl, 1) := by decide +kernel
theorem dM_inWay_53 : decode cM_inWay 53 = .ok (.lor, 1) := by decide +kernel
theorem dM_inWay_54 : decode cM_inWay 54 = .ok (.lstore_n 1, 1) := by decide +kernel
theorem dM_inWay_55 : decode cM_inWay 55 = .ok (.iinc 3 1, 3) := by decide +kernel
theorem dM_inWay_58 : decode cM_inWay 58 = .ok (.goto (-54), 3) := by decide +kernel
theorem dM_inWay_61 : decode cM_inWay 61 = .ok (.lload_n 1, 1) := by decide +kernel
theorem dM_inWay_62 : decode cM_inWay 62 = .ok (.lreturn, 1) := by decide +kernel
theorem dM_strictOnes_0 : decode cM_strictOnes 0 = .ok (.lconst 0, 1) := by decide +kernel
theorem dM_strictOnes_1 : decode cM_strictOnes 1 = .ok (.lstore_n 1, 1) := by decide +kernel
theorem dM_strictOnes_2 : decode cM_strictOnes 2 = .ok (.iconst 0, 1) := by decide +kernel
theorem dM_strictOnes_3 : decode cM_strictOnes 3 = .ok (.istore_n 3, 1) := by decide +kernel
theorem dM_strictOnes_4 : decode cM_strictOnes 4 = .ok (.iload_n 3, 1) := by decide +kernel
theorem dM_strictOnes_5 : decode cM_strictOnes 5 = .ok (.aload_n 0, 1) := by decide +kernel
theorem dM_strictOnes_6 : decode cM_strictOnes 6 = .ok (.getfield 73, 3) := by decide +kernel
theorem dM_strictOnes_9 : decode cM_strictOnes 9 = .ok (.if_icmp .ge 24, 3) := by decide +kernel
theorem dM_strictOnes_12 : decode cM_strictOnes 12 = .ok (.aload_n 0, 1) := by decide +kernel
theorem dM_strictOnes_13 : decode cM_strictOnes 13 = .ok (.getfield 63, 3) := by decide +kernel
theorem dM_strictOnes_16 : decode cM_strictOnes 16 = .ok (.iload_n 3, 1) := by decide +kernel
theorem dM_strictOnes_17 : decode cM_strictOnes 17 = .ok (.baload, 1) := by decide +kernel
theorem dM_strictOnes_18 : decode cM_strictOnes 18 = .ok (.ifCond .eq 9, 3) := by decide +kernel
theorem dM_strictOnes_21 : decode cM_strictOnes 21 = .ok (.lload_n 1, 1) := by decide +kernel
theorem dM_strictOnes_22 : decode cM_strictOnes 22 = .ok (.lconst 1, 1) := by decide +kernel
theorem dM_strictOnes_23 : decode cM_strictOnes 23 = .ok (.iload_n 3, 1) := by decide +kernel
theorem dM_strictOnes_24 : decode cM_strictOnes 24 = .ok (.lshl, 1) := by decide +kernel
theorem dM_strictOnes_25 : decode cM_strictOnes 25 = .ok (.lor, 1) := by decide +kernel
theorem dM_strictOnes_26 : decode cM_strictOnes 26 = .ok (.lstore_n 1, 1) := by decide +kernel
theorem dM_strictOnes_27 : decode cM_strictOnes 27 = .ok (.iinc 3 1, 3) := by decide +kernel
theorem dM_strictOnes_30 : decode cM_strictOnes 30 = .ok (.goto (-26), 3) := by decide +kernel
theorem dM_strictOnes_33 : decode cM_strictOnes 33 = .ok (.lload_n 1, 1) := by decide +kernel
theorem dM_strictOnes_34 : decode cM_strictOnes 34 = .ok (.lreturn, 1) := by decide +kernel
theorem dM_hasPoints_0 : decode cM_hasPoints 0 = .ok (.aload_n 0, 1) := by decide +kernel
theorem dM_hasPoints_1 : decode cM_hasPoints 1 = .ok (.getfield 73, 3) := by decide +kernel
theorem dM_hasPoints_4 : decode cM_hasPoints 4 = .ok (.ifCond .ne 5, 3) := by decide +kernel
theorem dM_hasPoints_7 : decode cM_hasPoints 7 = .ok (.iconst 1, 1) := by decide +kernel
theorem dM_hasPoints_8 : decode cM_hasPoints 8 = .ok (.ireturn, 1) := by decide +kernel
theorem dM_hasPoints_9 : decode cM_hasPoints 9 = .ok (.aload_n 0, 1) := by decide +kernel
theorem dM_hasPoints_10 : decode cM_hasPoints 10 = .ok (.invokevirtual 98, 3) := by decide +kernel
theorem dM_hasPoints_13 : decode cM_hasPoints 13 = .ok (.ifCond .eq 8, 3) := by decide +kernel
theorem dM_hasPoints_16 : decode cM_hasPoints 16 = .ok (.aload_n 0, 1) := by decide +kernel
theorem dM_hasPoints_17 : decode cM_hasPoints 17 = .ok (.invokevirtual 102, 3) := by decide +kernel
theorem dM_hasPoints_20 : decode cM_hasPoints 20 = .ok (.ireturn, 1) := by decide +kernel
theorem dM_hasPoints_21 : decode cM_hasPoints 21 = .ok (.iconst 0, 1) := by decide +kernel
theorem dM_hasPoints_22 : decode cM_hasPoints 22 = .ok (.istore_n 1, 1) := by decide +kernel
theorem dM_hasPoints_23 : decode cM_hasPoints 23 = .ok (.lconst 0, 1) := by decide +kernel
theorem dM_hasPoints_24 : decode cM_hasPoints 24 = .ok (.lstore_n 2, 1) := by decide +kernel
theorem dM_hasPoints_25 : decode cM_hasPoints 25 = .ok (.iconst 0, 1) := by decide +kernel
theorem dM_hasPoints_26 : decode cM_hasPoints 26 = .ok (.istore 4, 2) := by decide +kernel
theorem dM_hasPoints_28 : decode cM_hasPoints 28 = .ok (.iload 4, 2) := by decide +kernel
theorem dM_hasPoints_30 : decode cM_hasPoints 30 = .ok (.aload_n 0, 1) := by decide +kernel
theorem dM_hasPoints_31 : decode cM_hasPoints 31 = .ok (.getfield 73, 3) := by decide +kernel
theorem dM_hasPoints_34 : decode cM_hasPoints 34 = .ok (.if_icmp .ge 53, 3) := by decide +kernel
theorem dM_hasPoints_37 : decode cM_hasPoints 37 = .ok (.iload 4, 2) := by decide +kernel
theorem dM_hasPoints_39 : decode cM_hasPoints 39 = .ok (.iconst 1, 1) := by decide +kernel
theorem dM_hasPoints_40 : decode cM_hasPoints 40 = .ok (.iadd, 1) := by decide +kernel
theorem dM_hasPoints_41 : decode cM_hasPoints 41 = .ok (.istore 5, 2) := by decide +kernel
theorem dM_hasPoints_43 : decode cM_hasPoints 43 = .ok (.iload 5, 2) := by decide +kernel
theorem dM_hasPoints_45 : decode cM_hasPoints 45 = .ok (.aload_n 0, 1) := by decide +kernel
theorem dM_hasPoints_46 : decode cM_hasPoints 46 = .ok (.getfield 73, 3) := by decide +kernel
theorem dM_hasPoints_49 : decode cM_hasPoints 49 = .ok (.if_icmp .ge 32, 3) := by decide +kernel
theorem dM_hasPoints_52 : decode cM_hasPoints 52 = .ok (.aload_n 0, 1) := by decide +kernel
theorem dM_hasPoints_53 : decode cM_hasPoints 53 = .ok (.iload 4, 2) := by decide +kernel
theorem dM_hasPoints_55 : decode cM_hasPoints 55 = .ok (.iload 5, 2) := by decide +kernel
theorem dM_hasPoints_57 : decode cM_hasPoints 57 = .ok (.invokevirtual 105, 3) := by decide +kernel
theorem dM_hasPoints_60 : decode cM_hasPoints 60 = .ok (.ifCond .ne 6, 3) := by decide +kernel
theorem dM_hasPoints_63 : decode cM_hasPoints 63 = .ok (.goto 12, 3) := by decide +kernel
theorem dM_hasPoints_66 : decode cM_hasPoints 66 = .ok (.iconst 1, 1) := by decide +kernel
theorem dM_hasPoints_67 : decode cM_hasPoints 67 = .ok (.istore_n 1, 1) := by decide +kernel
theorem dM_hasPoints_68 : decode cM_hasPoints 68 = .ok (.lload_n 2, 1) := by decide +kernel
theorem dM_hasPoints_69 : decode cM_hasPoints 69 = .ok (.aload_n 0, 1) := by decide +kernel
theorem dM_hasPoints_70 : decode cM_hasPoints 70 = .ok (.invokevirtual 109, 3) := by decide +kernel
theorem dM_hasPoints_73 : decode cM_hasPoints 73 = .ok (.lor, 1) := by decide +kernel
theorem dM_hasPoints_74 : decode cM_hasPoints 74 = .ok (.lstore_n 2, 1) := by decide +kernel
theorem dM_hasPoints_75 : decode cM_hasPoints 75 = .ok (.iinc 5 1, 3) := by decide +kernel
theorem dM_hasPoints_78 : decode cM_hasPoints 78 = .ok (.goto (-35), 3) := by decide +kernel
theorem dM_hasPoints_81 : decode cM_hasPoints 81 = .ok (.iinc 4 1, 3) := by decide +kernel
theorem dM_hasPoints_84 : decode cM_hasPoints 84 = .ok (.goto (-56), 3) := by decide +kernel
theorem dM_hasPoints_87 : decode cM_hasPoints 87 = .ok (.iload_n 1, 1) := by decide +kernel
theorem dM_hasPoints_88 : decode cM_hasPoints 88 = .ok (.ifCond .ne 5, 3) := by decide +kernel
theorem dM_hasPoints_91 : decode cM_hasPoints 91 = .ok (.iconst 0, 1) := by decide +kernel
theorem dM_hasPoints_92 : decode cM_hasPoints 92 = .ok (.ireturn, 1) := by decide +kernel
theorem dM_hasPoints_93 : decode cM_hasPoints 93 = .ok (.iconst 0, 1) := by decide +kernel
theorem dM_hasPoints_94 : decode cM_hasPoints 94 = .ok (.istore 4, 2) := by decide +kernel
theorem dM_hasPoints_96 : decode cM_hasPoints 96 = .ok (.iload 4, 2) := by decide +kernel
theorem dM_hasPoints_98 : decode cM_hasPoints 98 = .ok (.iconst 2, 1) := by decide +kernel
theorem dM_hasPoints_99 : decode cM_hasPoints 99 = .ok (.aload_n 0, 1) := by decide +kernel
theorem dM_hasPoints_100 : decode cM_hasPoints 100 = .ok (.getfield 73, 3) := by decide +kernel
theorem dM_hasPoints_103 : decode cM_hasPoints 103 = .ok (.imul, 1) := by decide +kernel
theorem dM_hasPoints_104 : decode cM_hasPoints 104 = .ok (.if_icmp .ge 40, 3) := by decide +kernel
theorem dM_hasPoints_107 : decode cM_hasPoints 107 = .ok (.aload_n 0, 1) := by decide +kernel
theorem dM_hasPoints_108 : decode cM_hasPoints 108 = .ok (.iload 4, 2) := by decide +kernel
theorem dM_hasPoints_110 : decode cM_hasPoints 110 = .ok (.iconst 2, 1) := by decide +kernel
theorem dM_hasPoints_111 : decode cM_hasPoints 111 = .ok (.idiv, 1) := by decide +kernel
theorem dM_hasPoints_112 : decode cM_hasPoints 112 = .ok (.iload 4, 2) := by decide +kernel
theorem dM_hasPoints_114 : decode cM_hasPoints 114 = .ok (.iconst 2, 1) := by decide +kernel
theorem dM_hasPoints_115 : decode cM_hasPoints 115 = .ok (.irem, 1) := by decide +kernel
theorem dM_hasPoints_116 : decode cM_hasPoints 116 = .ok (.iconst 1, 1) := by decide +kernel
theorem dM_hasPoints_117 : decode cM_hasPoints 117 = .ok (.if_icmp .ne 7, 3) := by decide +kernel
theorem dM_hasPoints_120 : decode cM_hasPoints 120 = .ok (.iconst 1, 1) := by decide +kernel
theorem dM_hasPoints_121 : decode cM_hasPoints 121 = .ok (.goto 4, 3) := by decide +kernel
theorem dM_hasPoints_124 : decode cM_hasPoints 124 = .ok (.iconst 0, 1) := by decide +kernel
theorem dM_hasPoints_125 : decode cM_hasPoints 125 = .ok (.invokevirtual 113, 3) := by decide +kernel
theorem dM_hasPoints_128 : decode cM_hasPoints 128 = .ok (.ifCond .eq 10, 3) := by decide +kernel
theorem dM_hasPoints_131 : decode cM_hasPoints 131 = .ok (.lload_n 2, 1) := by decide +kernel
theorem dM_hasPoints_132 : decode cM_hasPoints 132 = .ok (.aload_n 0, 1) := by decide +kernel
theorem dM_hasPoints_133 : decode cM_hasPoints 133 = .ok (.invokevirtual 117, 3) := by decide +kernel
theorem dM_hasPoints_136 : decode cM_hasPoints 136 = .ok (.lor, 1) := by decide +kernel
theorem dM_hasPoints_137 : decode cM_hasPoints 137 = .ok (.lstore_n 2, 1) := by decide +kernel
theorem dM_hasPoints_138 : decode cM_hasPoints 138 = .ok (.iinc 4 1, 3) := by decide +kernel
theorem dM_hasPoints_141 : decode cM_hasPoints 141 = .ok (.goto (-45), 3) := by decide +kernel
theorem dM_hasPoints_144 : decode cM_hasPoints 144 = .ok (.lload_n 2, 1) := by decide +kernel
theorem dM_hasPoints_145 : decode cM_hasPoints 145 = .ok (.aload_n 0, 1) := by decide +kernel
theorem dM_hasPoints_146 : decode cM_hasPoints 146 = .ok (.invokevirtual 120, 3) := by decide +kernel
theorem dM_hasPoints_149 : decode cM_hasPoints 149 = .ok (.lcmp, 1) := by decide +kernel
theorem dM_hasPoints_150 : decode cM_hasPoints 150 = .ok (.ifCond .ne 7, 3) := by decide +kernel
theorem dM_hasPoints_153 : decode cM_hasPoints 153 = .ok (.iconst 1, 1) := by decide +kernel
theorem dM_hasPoints_154 : decode cM_hasPoints 154 = .ok (.goto 4, 3) := by decide +kernel
theorem dM_hasPoints_157 : decode cM_hasPoints 157 = .ok (.iconst 0, 1) := by decide +kernel
theorem dM_hasPoints_158 : decode cM_hasPoints 158 = .ok (.ireturn, 1) := by decide +kernel
theorem dM_compare_0 : decode cM_compare 0 = .ok (.lload_n 0, 1) := by decide +kernel
theorem dM_compare_1 : decode cM_compare 1 = .ok (.lstore 8, 2) := by decide +kernel
theorem dM_compare_3 : decode cM_compare 3 = .ok (.lload_n 2, 1) := by decide +kernel
theorem dM_compare_4 : decode cM_compare 4 = .ok (.lstore 10, 2) := by decide +kernel
theorem dM_compare_6 : decode cM_compare 6 = .ok (.lload 4, 2) := by decide +kernel
theorem dM_compare_8 : decode cM_compare 8 = .ok (.lstore 12, 2) := by decide +kernel
theorem dM_compare_10 : decode cM_compare 10 = .ok (.lload 6, 2) := by decide +kernel
theorem dM_compare_12 : decode cM_compare 12 = .ok (.lstore 14, 2) := by decide +kernel
theorem dM_compare_14 : decode cM_compare 14 = .ok (.iconst 1, 1) := by decide +kernel
theorem dM_compare_15 : decode cM_compare 15 = .ok (.istore 16, 2) := by decide +kernel
theorem dM_compare_17 : decode cM_compare 17 = .ok (.lload 8, 2) := by decide +kernel
theorem dM_compare_19 : decode cM_compare 19 = .ok (.lload 10, 2) := by decide +kernel
theorem dM_compare_21 : decode cM_compare 21 = .ok (.ldiv, 1) := by decide +kernel
theorem dM_compare_22 : decode cM_compare 22 = .ok (.lstore 17, 2) := by decide +kernel
theorem dM_compare_24 : decode cM_compare 24 = .ok (.lload 12, 2) := by decide +kernel
theorem dM_compare_26 : decode cM_compare 26 = .ok (.lload 14, 2) := by decide +kernel
theorem dM_compare_28 : decode cM_compare 28 = .ok (.ldiv, 1) := by decide +kernel
theorem dM_compare_29 : decode cM_compare 29 = .ok (.lstore 19, 2) := by decide +kernel
theorem dM_compare_31 : decode cM_compare 31 = .ok (.lload 8, 2) := by decide +kernel
theorem dM_compare_33 : decode cM_compare 33 = .ok (.lload 10, 2) := by decide +kernel
theorem dM_compare_35 : decode cM_compare 35 = .ok (.lrem, 1) := by decide +kernel
theorem dM_compare_36 : decode cM_compare 36 = .ok (.lstore 21, 2) := by decide +kernel
theorem dM_compare_38 : decode cM_compare 38 = .ok (.lload 12, 2) := by decide +kernel
theorem dM_compare_40 : decode cM_compare 40 = .ok (.lload 14, 2) := by decide +kernel
theorem dM_compare_42 : decode cM_compare 42 = .ok (.lrem, 1) := by decide +kernel
theorem dM_compare_43 : decode cM_compare 43 = .ok (.lstore 23, 2) := by decide +kernel
theorem dM_compare_45 : decode cM_compare 45 = .ok (.lload 21, 2) := by decide +kernel
theorem dM_compare_47 : decode cM_compare 47 = .ok (.lconst 0, 1) := by decide +kernel
theorem dM_compare_48 : decode cM_compare 48 = .ok (.lcmp, 1) := by decide +kernel
theorem dM_compare_49 : decode cM_compare 49 = .ok (.ifCond .ge 16, 3) := by decide +kernel
theorem dM_compare_52 : decode cM_compare 52 = .ok (.lload 21, 2) := by decide +kernel
theorem dM_compare_54 : decode cM_compare 54 = .ok (.lload 10, 2) := by decide +kernel
theorem dM_compare_56 : decode cM_compare 56 = .ok (.ladd, 1) := by decide +kernel
theorem dM_compare_57 : decode cM_compare 57 = .ok (.lstore 21, 2) := by decide +kernel
theorem dM_compare_59 : decode cM_compare 59 = .ok (.lload 17, 2) := by decide +kernel
theorem dM_compare_61 : decode cM_compare 61 = .ok (.lconst 1, 1) := by decide +kernel
theorem dM_compare_62 : decode cM_compare 62 = .ok (.lsub, 1) := by decide +kernel
theorem dM_compare_63 : decode cM_compare 63 = .ok (.lstore 17, 2) := by decide +kernel
theorem dM_compare_65 : decode cM_compare 65 = .ok (.lload 23, 2) := by decide +kernel
theorem dM_compare_67 : decode cM_compare 67 = .ok (.lconst 0, 1) := by decide +kernel
theorem dM_compare_68 : decode cM_compare 68 = .ok (.lcmp, 1) := by decide +kernel
theorem dM_compare_69 : decode cM_compare 69 = .ok (.ifCond .ge 16, 3) := by decide +kernel
theorem dM_compare_72 : decode cM_compare 72 = .ok (.lload 23, 2) := by decide +kernel
theorem dM_compare_74 : decode cM_compare 74 = .ok (.lload 14, 2) := by decide +kernel
theorem dM_compare_76 : decode cM_compare 76 = .ok (.ladd, 1) := by decide +kernel
theorem dM_compare_77 : decode cM_compare 77 = .ok (.lstore 23, 2) := by decide +kernel
theorem dM_compare_79 : decode cM_compare 79 = .ok (.lload 19, 2) := by decide +kernel
theorem dM_compare_81 : decode cM_compare 81 = .ok (.lconst 1, 1) := by decide +kernel
theorem dM_compare_82 : decode cM_compare 82 = .ok (.lsub, 1) := by decide +kernel
theorem dM_compare_83 : decode cM_compare 83 = .ok (.lstore 19, 2) := by decide +kernel
theorem dM_compare_85 : decode cM_compare 85 = .ok (.lload 17, 2) := by decide +kernel
theorem dM_compare_87 : decode cM_compare 87 = .ok (.lload 19, 2) := by decide +kernel
theorem dM_compare_89 : decode cM_compare 89 = .ok (.lcmp, 1) := by decide +kernel
theorem dM_compare_90 : decode cM_compare 90 = .ok (.ifCond .eq 20, 3) := by decide +kernel
theorem dM_compare_93 : decode cM_compare 93 = .ok (.lload 17, 2) := by decide +kernel
theorem dM_compare_95 : decode cM_compare 95 = .ok (.lload 19, 2) := by decide +kernel
theorem dM_compare_97 : decode cM_compare 97 = .ok (.lcmp, 1) := by decide +kernel
theorem dM_compare_98 : decode cM_compare 98 = .ok (.ifCond .ge 9, 3) := by decide +kernel
theorem dM_compare_101 : decode cM_compare 101 = .ok (.iload 16, 2) := by decide +kernel
theorem dM_compare_103 : decode cM_compare 103 = .ok (.ineg, 1) := by decide +kernel
theorem dM_compare_104 : decode cM_compare 104 = .ok (.goto 5, 3) := by decide +kernel
theorem dM_compare_107 : decode cM_compare 107 = .ok (.iload 16, 2) := by decide +kernel
theorem dM_compare_109 : decode cM_compare 109 = .ok (.ireturn, 1) := by decide +kernel
theorem dM_compare_110 : decode cM_compare 110 = .ok (.lload 21, 2) := by decide +kernel
theorem dM_compare_112 : decode cM_compare 112 = .ok (.lconst 0, 1) := by decide +kernel
theorem dM_compare_113 : decode cM_compare 113 = .ok (.lcmp, 1) := by decide +kernel
theorem dM_compare_114 : decode cM_compare 114 = .ok (.ifCond .eq 10, 3) := by decide +kernel
theorem dM_compare_117 : decode cM_compare 117 = .ok (.lload 23, 2) := by decide +kernel
theorem dM_compare_119 : decode cM_compare 119 = .ok (.lconst 0, 1) := by decide +kernel
theorem dM_compare_120 : decode cM_compare 120 = .ok (.lcmp, 1) := by decide +kernel
theorem dM_compare_121 : decode cM_compare 121 = .ok (.ifCond .ne 31, 3) := by decide +kernel
theorem dM_compare_124 : decode cM_compare 124 = .ok (.lload 21, 2) := by decide +kernel
theorem dM_compare_126 : decode cM_compare 126 = .ok (.lload 23, 2) := by decide +kernel
theorem dM_compare_128 : decode cM_compare 128 = .ok (.lcmp, 1) := by decide +kernel
theorem dM_compare_129 : decode cM_compare 129 = .ok (.ifCond .ne 7, 3) := by decide +kernel
theorem dM_compare_132 : decode cM_compare 132 = .ok (.iconst 0, 1) := by decide +kernel
theorem dM_compare_133 : decode cM_compare 133 = .ok (.goto 18, 3) := by decide +kernel
theorem dM_compare_136 : decode cM_compare 136 = .ok (.lload 21, 2) := by decide +kernel
theorem dM_compare_138 : decode cM_compare 138 = .ok (.lconst 0, 1) := by decide +kernel
theorem dM_compare_139 : decode cM_compare 139 = .ok (.lcmp, 1) := by decide +kernel
theorem dM_compare_140 : decode cM_compare 140 = .ok (.ifCond .ne 9, 3) := by decide +kernel
theorem dM_compare_143 : decode cM_compare 143 = .ok (.iload 16, 2) := by decide +kernel
theorem dM_compare_145 : decode cM_compare 145 = .ok (.ineg, 1) := by decide +kernel
theorem dM_compare_146 : decode cM_compare 146 = .ok (.goto 5, 3) := by decide +kernel
theorem dM_compare_149 : decode cM_compare 149 = .ok (.iload 16, 2) := by decide +kernel
theorem dM_compare_151 : decode cM_compare 151 = .ok (.ireturn, 1) := by decide +kernel
theorem dM_compare_152 : decode cM_compare 152 = .ok (.lload 10, 2) := by decide +kernel
theorem dM_compare_154 : decode cM_compare 154 = .ok (.lstore 8, 2) := by decide +kernel
theorem dM_compare_156 : decode cM_compare 156 = .ok (.lload 21, 2) := by decide +kernel
theorem dM_compare_158 : decode cM_compare 158 = .ok (.lstore 10, 2) := by decide +kernel
theorem dM_compare_160 : decode cM_compare 160 = .ok (.lload 14, 2) := by decide +kernel
theorem dM_compare_162 : decode cM_compare 162 = .ok (.lstore 12, 2) := by decide +kernel
theorem dM_compare_164 : decode cM_compare 164 = .ok (.lload 23, 2) := by decide +kernel
theorem dM_compare_166 : decode cM_compare 166 = .ok (.lstore 14, 2) := by decide +kernel
theorem dM_compare_168 : decode cM_compare 168 = .ok (.iload 16, 2) := by decide +kernel
theorem dM_compare_170 : decode cM_compare 170 = .ok (.ineg, 1) := by decide +kernel
theorem dM_compare_171 : decode cM_compare 171 = .ok (.istore 16, 2) := by decide +kernel
theorem dM_compare_173 : decode cM_compare 173 = .ok (.goto (-156), 3) := by decide +kernel
theorem dM_band_0 : decode cM_band 0 = .ok (.iconst 1, 1) := by decide +kernel
theorem dM_band_1 : decode cM_band 1 = .ok (.istore_n 1, 1) := by decide +kernel
theorem dM_band_2 : decode cM_band 2 = .ok (.iconst 0, 1) := by decide +kernel
theorem dM_band_3 : decode cM_band 3 = .ok (.istore_n 2, 1) := by decide +kernel
theorem dM_band_4 : decode cM_band 4 = .ok (.iload_n 2, 1) := by decide +kernel
theorem dM_band_5 : decode cM_band 5 = .ok (.aload_n 0, 1) := by decide +kernel
theorem dM_band_6 : decode cM_band 6 = .ok (.getfield 73, 3) := by decide +kernel
theorem dM_band_9 : decode cM_band 9 = .ok (.if_icmp .ge 30, 3) := by decide +kernel
theorem dM_band_12 : decode cM_band 12 = .ok (.iload_n 1, 1) := by decide +kernel
theorem dM_band_13 : decode cM_band 13 = .ok (.ifCond .eq 18, 3) := by decide +kernel
theorem dM_band_16 : decode cM_band 16 = .ok (.aload_n 0, 1) := by decide +kernel
theorem dM_band_17 : decode cM_band 17 = .ok (.getfield 54, 3) := by decide +kernel
theorem dM_band_20 : decode cM_band 20 = .ok (.iload_n 2, 1) := by decide +kernel
theorem dM_band_21 : decode cM_band 21 = .ok (.laload, 1) := by decide +kernel
theorem dM_band_22 : decode cM_band 22 = .ok (.lconst 0, 1) := by decide +kernel
theorem dM_band_23 : decode cM_band 23 = .ok (.lcmp, 1) := by decide +kernel
theorem dM_band_24 : decode cM_band 24 = .ok (.ifCond .ne 7, 3) := by decide +kernel
theorem dM_band_27 : decode cM_band 27 = .ok (.iconst 1, 1) := by decide +kernel
theorem dM_band_28 : decode cM_band 28 = .ok (.goto 4, 3) := by decide +kernel
theorem dM_band_31 : decode cM_band 31 = .ok (.iconst 0, 1) := by decide +kernel
theorem dM_band_32 : decode cM_band 32 = .ok (.istore_n 1, 1) := by decide +kernel
theorem dM_band_33 : decode cM_band 33 = .ok (.iinc 2 1, 3) := by decide +kernel
theorem dM_band_36 : decode cM_band 36 = .ok (.goto (-32), 3) := by decide +kernel
theorem dM_band_39 : decode cM_band 39 = .ok (.aload_n 0, 1) := by decide +kernel
theorem dM_band_40 : decode cM_band 40 = .ok (.lconst 0, 1) := by decide +kernel
theorem dM_band_41 : decode cM_band 41 = .ok (.putfield 123, 3) := by decide +kernel
theorem dM_band_44 : decode cM_band 44 = .ok (.aload_n 0, 1) := by decide +kernel
theorem dM_band_45 : decode cM_band 45 = .ok (.lconst 0, 1) := by decide +kernel
theorem dM_band_46 : decode cM_band 46 = .ok (.putfield 126, 3) := by decide +kernel
theorem dM_band_49 : decode cM_band 49 = .ok (.iconst 0, 1) := by decide +kernel
theorem dM_band_50 : decode cM_band 50 = .ok (.istore_n 2, 1) := by decide +kernel
theorem dM_band_51 : decode cM_band 51 = .ok (.iload_n 2, 1) := by decide +kernel
theorem dM_band_52 : decode cM_band 52 = .ok (.aload_n 0, 1) := by decide +kernel
theorem dM_band_53 : decode cM_band 53 = .ok (.getfield 73, 3) := by decide +kernel
theorem dM_band_56 : decode cM_band 56 = .ok (.if_icmp .ge 288, 3) := by decide +kernel
theorem dM_band_59 : decode cM_band 59 = .ok (.iload_n 1, 1) := by decide +kernel
theorem dM_band_60 : decode cM_band 60 = .ok (.ifCond .eq 12, 3) := by decide +kernel
theorem dM_band_63 : decode cM_band 63 = .ok (.aload_n 0, 1) := by decide +kernel
theorem dM_band_64 : decode cM_band 64 = .ok (.getfield 57, 3) := by decide +kernel
theorem dM_band_67 : decode cM_band 67 = .ok (.iload_n 2, 1) := by decide +kernel
theorem dM_band_68 : decode cM_band 68 = .ok (.laload, 1) := by decide +kernel
theorem dM_band_69 : decode cM_band 69 = .ok (.goto 9, 3) := by decide +kernel
theorem dM_band_72 : decode cM_band 72 = .ok (.aload_n 0, 1) := by decide +kernel
theorem dM_band_73 : decode cM_band 73 = .ok (.getfield 54, 3) := by decide +kernel
theorem dM_band_76 : decode cM_band 76 = .ok (.iload_n 2, 1) := by decide +kernel
theorem dM_band_77 : decode cM_band 77 = .ok (.laload, 1) := by decide +kernel
theorem dM_band_78 : decode cM_band 78 = .ok (.lstore_n 3, 1) := by decide +kernel
theorem dM_band_79 : decode cM_band 79 = .ok (.lload_n 3, 1) := by decide +kernel
theorem dM_band_80 : decode cM_band 80 = .ok (.lconst 0, 1) := by decide +kernel
theorem dM_band_81 : decode cM_band 81 = .ok (.lcmp, 1) := by decide +kernel
theorem dM_band_82 : decode cM_band 82 = .ok (.ifCond .le 129, 3) := by decide +kernel
theorem dM_band_85 : decode cM_band 85 = .ok (.aload_n 0, 1) := by decide +kernel
theorem dM_band_86 : decode cM_band 86 = .ok (.getfield 126, 3) := by decide +kernel
theorem dM_band_89 : decode cM_band 89 = .ok (.lconst 0, 1) := by decide +kernel
theorem dM_band_90 : decode cM_band 90 = .ok (.lcmp, 1) := by decide +kernel
theorem dM_band_91 : decode cM_band 91 = .ok (.ifCond .ne 7, 3) := by decide +kernel
theorem dM_band_94 : decode cM_band 94 = .ok (.iconst (-1), 1) := by decide +kernel
theorem dM_band_95 : decode cM_band 95 = .ok (.goto 21, 3) := by decide +kernel
theorem dM_band_98 : decode cM_band 98 = .ok (.aload_n 0, 1) := by decide +kernel
theorem dM_band_99 : decode cM_band 99 = .ok (.getfield 60, 3) := by decide +kernel
theorem dM_band_102 : decode cM_band 102 = .ok (.iload_n 2, 1) := by decide +kernel
theorem dM_band_103 : decode cM_band 103 = .ok (.laload, 1) := by decide +kernel
theorem dM_band_104 : decode cM_band 104 = .ok (.lload_n 3, 1) := by decide +kernel
theorem dM_band_105 : decode cM_band 105 = .ok (.aload_n 0, 1) := by decide +kernel
theorem dM_band_106 : decode cM_band 106 = .ok (.getfield 129, 3) := by decide +kernel
theorem dM_band_109 : decode cM_band 109 = .ok (.aload_n 0, 1) := by decide +kernel
theorem dM_band_110 : decode cM_band 110 = .ok (.getfield 126, 3) := by decide +kernel
theorem dM_band_113 : decode cM_band 113 = .ok (.invokestatic 132, 3) := by decide +kernel
theorem dM_band_116 : decode cM_band 116 = .ok (.istore 5, 2) := by decide +kernel
theorem dM_band_118 : decode cM_band 118 = .ok (.aload_n 0, 1) := by decide +kernel
theorem dM_band_119 : decode cM_band 119 = .ok (.iload 5, 2) := by decide +kernel
theorem dM_band_121 : decode cM_band 121 = .ok (.ifCond .ge 12, 3) := by decide +kernel
theorem dM_band_124 : decode cM_band 124 = .ok (.aload_n 0, 1) := by decide +kernel
theorem dM_band_125 : decode cM_band 125 = .ok (.getfield 63, 3) := by decide +kernel
theorem dM_band_128 : decode cM_band 128 = .ok (.iload_n 2, 1) := by decide +kernel
theorem dM_band_129 : decode cM_band 129 = .ok (.baload, 1) := by decide +kernel
theorem dM_band_130 : decode cM_band 130 = .ok (.goto 36, 3) := by decide +kernel
theorem dM_band_133 : decode cM_band 133 = .ok (.iload 5, 2) := by decide +kernel
theorem dM_band_135 : decode cM_band 135 = .ok (.ifCond .ne 27, 3) := by decide +kernel
theorem dM_band_138 : decode cM_band 138 = .ok (.aload_n 0, 1) := by decide +kernel
theorem dM_band_139 : decode cM_band 139 = .ok (.getfield 136, 3) := by decide +kernel
theorem dM_band_142 : decode cM_band 142 = .ok (.ifCond .ne 12, 3) := by decide +kernel
theorem dM_band_145 : decode cM_band 145 = .ok (.aload_n 0, 1) := by decide +kernel
theorem dM_band_146 : decode cM_band 146 = .ok (.getfield 63, 3) := by decide +kernel
theorem dM_band_149 : decode cM_band 149 = .ok (.iload_n 2, 1) := by decide +kernel
theorem dM_band_150 : decode cM_band 150 = .ok (.baload, 1) := by decide +kernel
theorem dM_band_151 : decode cM_band 151 = .ok (.ifCond .eq 7, 3) := by decide +kernel
theorem dM_band_154 : decode cM_band 154 = .ok (.iconst 1, 1) := by decide +kernel
theorem dM_band_155 : decode cM_band 155 = .ok (.goto 11, 3) := by decide +kernel
theorem dM_band_158 : decode cM_band 158 = .ok (.iconst 0, 1) := by decide +kernel
theorem dM_band_159 : decode cM_band 159 = .ok (.goto 7, 3) := by decide +kernel
theorem dM_band_162 : decode cM_band 162 = .ok (.aload_n 0, 1) := by decide +kernel
theorem dM_band_163 : decode cM_band 163 = .ok (.getfield 136, 3) := by decide +kernel
theorem dM_band_166 : decode cM_band 166 = .ok (.putfield 136, 3) := by decide +kernel
theorem dM_band_169 : decode cM_band 169 = .ok (.aload_n 0, 1) := by decide +kernel
theorem dM_band_170 : decode cM_band 170 = .ok (.iload 5, 2) := by decide +kernel
theorem dM_band_172 : decode cM_band 172 = .ok (.ifCond .ge 12, 3) := by decide +kernel
theorem dM_band_175 : decode cM_band 175 = .ok (.aload_n 0, 1) := by decide +kernel
theorem dM_band_176 : decode cM_band 176 = .ok (.getfield 60, 3) := by decide +kernel
theorem dM_band_179 : decode cM_band 179 = .ok (.iload_n 2, 1) := by decide +kernel
theorem dM_band_180 : decode cM_band 180 = .ok (.laload, 1) := by decide +kernel
theorem dM_band_181 : decode cM_band 181 = .ok (.goto 7, 3) := by decide +kernel
theorem dM_band_184 : decode cM_band 184 = .ok (.aload_n 0, 1) := by decide +kernel
theorem dM_band_185 : decode cM_band 185 = .ok (.getfield 129, 3) := by decide +kernel
theorem dM_band_188 : decode cM_band 188 = .ok (.putfield 129, 3) := by decide +kernel
theorem dM_band_191 : decode cM_band 191 = .ok (.aload_n 0, 1) := by decide +kernel
theorem dM_band_192 : decode cM_band 192 = .ok (.iload 5, 2) := by decide +kernel
theorem dM_band_194 : decode cM_band 194 = .ok (.ifCond .ge 7, 3) := by decide +kernel
theorem dM_band_197 : decode cM_band 197 = .ok (.lload_n 3, 1) := by decide +kernel
theorem dM_band_198 : decode cM_band 198 = .ok (.goto 7, 3) := by decide +kernel
theorem dM_band_201 : decode cM_band 201 = .ok (.aload_n 0, 1) := by decide +kernel
theorem dM_band_202 : decode cM_band 202 = .ok (.getfield 126, 3) := by decide +kernel
theorem dM_band_205 : decode cM_band 205 = .ok (.putfield 126, 3) := by decide +kernel
theorem dM_band_208 : decode cM_band 208 = .ok (.goto 130, 3) := by decide +kernel
theorem dM_band_211 : decode cM_band 211 = .ok (.aload_n 0, 1) := by decide +kernel
theorem dM_band_212 : decode cM_band 212 = .ok (.getfield 123, 3) := by decide +kernel
theorem dM_band_215 : decode cM_band 215 = .ok (.lconst 0, 1) := by decide +kernel
theorem dM_band_216 : decode cM_band 216 = .ok (.lcmp, 1) := by decide +kernel
theorem dM_band_217 : decode cM_band 217 = .ok (.ifCond .ne 7, 3) := by decide +kernel
theorem dM_band_220 : decode cM_band 220 = .ok (.iconst 1, 1) := by decide +kernel
theorem dM_band_221 : decode cM_band 221 = .ok (.goto 23, 3) := by decide +kernel
theorem dM_band_224 : decode cM_band 224 = .ok (.aload_n 0, 1) := by decide +kernel
theorem dM_band_225 : decode cM_band 225 = .ok (.getfield 60, 3) := by decide +kernel
theorem dM_band_228 : decode cM_band 228 = .ok (.iload_n 2, 1) := by decide +kernel
theorem dM_band_229 : decode cM_band 229 = .ok (.laload, 1) := by decide +kernel
theorem dM_band_230 : decode cM_band 230 = .ok (.lneg, 1) := by decide +kernel
theorem dM_band_231 : decode cM_band 231 = .ok (.lload_n 3, 1) := by decide +kernel
theorem dM_band_232 : decode cM_band 232 = .ok (.lneg, 1) := by decide +kernel
theorem dM_band_233 : decode cM_band 233 = .ok (.aload_n 0, 1) := by decide +kernel
theorem dM_band_234 : decode cM_band 234 = .ok (.getfield 140, 3) := by decide +kernel
theorem dM_band_237 : decode cM_band 237 = .ok (.aload_n 0, 1) := by decide +kernel
theorem dM_band_238 : decode cM_band 238 = .ok (.getfield 123, 3) := by decide +kernel
theorem dM_band_241 : decode cM_band 241 = .ok (.invokestatic 132, 3) := by decide +kernel
theorem dM_band_244 : decode cM_band 244 = .ok (.istore 5, 2) := by decide +kernel
theorem dM_band_246 : decode cM_band 246 = .ok (.aload_n 0, 1) := by decide +kernel
theorem dM_band_247 : decode cM_band 247 = .ok (.iload 5, 2) := by decide +kernel
theorem dM_band_249 : decode cM_band 249 = .ok (.ifCond .le 12, 3) := by decide +kernel
theorem dM_band_252 : decode cM_band 252 = .ok (.aload_n 0, 1) := by decide +kernel
theorem dM_band_253 : decode cM_band 253 = .ok (.getfield 63, 3) := by decide +kernel
theorem dM_band_256 : decode cM_band 256 = .ok (.iload_n 2, 1) := by decide +kernel
theorem dM_band_257 : decode cM_band 257 = .ok (.baload, 1) := by decide +kernel
theorem dM_band_258 : decode cM_band 258 = .ok (.goto 36, 3) := by decide +kernel
theorem dM_band_261 : decode cM_band 261 = .ok (.iload 5, 2) := by decide +kernel
theorem dM_band_263 : decode cM_band 263 = .ok (.ifCond .ne 27, 3) := by decide +kernel
theorem dM_band_266 : decode cM_band 266 = .ok (.aload_n 0, 1) := by decide +kernel
theorem dM_band_267 : decode cM_band 267 = .ok (.getfield 143, 3) := by decide +kernel
theorem dM_band_270 : decode cM_band 270 = .ok (.ifCond .ne 12, 3) := by decide +kernel
theorem dM_band_273 : decode cM_band 273 = .ok (.aload_n 0, 1) := by decide +kernel
theorem dM_band_274 : decode cM_band 274 = .ok (.getfield 63, 3) := by decide +kernel
theorem dM_band_277 : decode cM_band 277 = .ok (.iload_n 2, 1) := by decide +kernel
theorem dM_band_278 : decode cM_band 278 = .ok (.baload, 1) := by decide +kernel
theorem dM_band_279 : decode cM_band 279 = .ok (.ifCond .eq 7, 3) := by decide +kernel
theorem dM_band_282 : decode cM_band 282 = .ok (.iconst 1, 1) := by decide +kernel
theorem dM_band_283 : decode cM_band 283 = .ok (.goto 11, 3) := by decide +kernel
theorem dM_band_286 : decode cM_band 286 = .ok (.iconst 0, 1) := by decide +kernel
theorem dM_band_287 : decode cM_band 287 = .ok (.goto 7, 3) := by decide +kernel
theorem dM_band_290 : decode cM_band 290 = .ok (.aload_n 0, 1) := by decide +kernel
theorem dM_band_291 : decode cM_band 291 = .ok (.getfield 143, 3) := by decide +kernel
theorem dM_band_294 : decode cM_band 294 = .ok (.putfield 143, 3) := by decide +kernel
theorem dM_band_297 : decode cM_band 297 = .ok (.aload_n 0, 1) := by decide +kernel
theorem dM_band_298 : decode cM_band 298 = .ok (.iload 5, 2) := by decide +kernel
theorem dM_band_300 : decode cM_band 300 = .ok (.ifCond .le 13, 3) := by decide +kernel
theorem dM_band_303 : decode cM_band 303 = .ok (.aload_n 0, 1) := by decide +kernel
theorem dM_band_304 : decode cM_band 304 = .ok (.getfield 60, 3) := by decide +kernel
theorem dM_band_307 : decode cM_band 307 = .ok (.iload_n 2, 1) := by decide +kernel
theorem dM_band_308 : decode cM_band 308 = .ok (.laload, 1) := by decide +kernel
theorem dM_band_309 : decode cM_band 309 = .ok (.lneg, 1) := by decide +kernel
theorem dM_band_310 : decode cM_band 310 = .ok (.goto 7, 3) := by decide +kernel
theorem dM_band_313 : decode cM_band 313 = .ok (.aload_n 0, 1) := by decide +kernel
theorem dM_band_314 : decode cM_band 314 = .ok (.getfield 140, 3) := by decide +kernel
theorem dM_band_317 : decode cM_band 317 = .ok (.putfield 140, 3) := by decide +kernel
theorem dM_band_320 : decode cM_band 320 = .ok (.aload_n 0, 1) := by decide +kernel
theorem dM_band_321 : decode cM_band 321 = .ok (.iload 5, 2) := by decide +kernel
theorem dM_band_323 : decode cM_band 323 = .ok (.ifCond .le 8, 3) := by decide +kernel
theorem dM_band_326 : decode cM_band 326 = .ok (.lload_n 3, 1) := by decide +kernel
theorem dM_band_327 : decode cM_band 327 = .ok (.lneg, 1) := by decide +kernel
theorem dM_band_328 : decode cM_band 328 = .ok (.goto 7, 3) := by decide +kernel
theorem dM_band_331 : decode cM_band 331 = .ok (.aload_n 0, 1) := by decide +kernel
theorem dM_band_332 : decode cM_band 332 = .ok (.getfield 123, 3) := by decide +kernel
theorem dM_band_335 : decode cM_band 335 = .ok (.putfield 123, 3) := by decide +kernel
theorem dM_band_338 : decode cM_band 338 = .ok (.iinc 2 1, 3) := by decide +kernel
theorem dM_band_341 : decode cM_band 341 = .ok (.goto (-290), 3) := by decide +kernel
theorem dM_band_344 : decode cM_band 344 = .ok (.aload_n 0, 1) := by decide +kernel
theorem dM_band_345 : decode cM_band 345 = .ok (.getfield 123, 3) := by decide +kernel
theorem dM_band_348 : decode cM_band 348 = .ok (.lconst 0, 1) := by decide +kernel
theorem dM_band_349 : decode cM_band 349 = .ok (.lcmp, 1) := by decide +kernel
theorem dM_band_350 : decode cM_band 350 = .ok (.ifCond .eq 12, 3) := by decide +kernel
theorem dM_band_353 : decode cM_band 353 = .ok (.aload_n 0, 1) := by decide +kernel
theorem dM_band_354 : decode cM_band 354 = .ok (.getfield 126, 3) := by decide +kernel
theorem dM_band_357 : decode cM_band 357 = .ok (.lconst 0, 1) := by decide +kernel
theorem dM_band_358 : decode cM_band 358 = .ok (.lcmp, 1) := by decide +kernel
theorem dM_band_359 : decode cM_band 359 = .ok (.ifCond .ne 5, 3) := by decide +kernel
theorem dM_band_362 : decode cM_band 362 = .ok (.iconst 1, 1) := by decide +kernel
theorem dM_band_363 : decode cM_band 363 = .ok (.ireturn, 1) := by decide +kernel
theorem dM_band_364 : decode cM_band 364 = .ok (.aload_n 0, 1) := by decide +kernel
theorem dM_band_365 : decode cM_band 365 = .ok (.getfield 140, 3) := by decide +kernel
theorem dM_band_368 : decode cM_band 368 = .ok (.aload_n 0, 1) := by decide +kernel
theorem dM_band_369 : decode cM_band 369 = .ok (.getfield 123, 3) := by decide +kernel
theorem dM_band_372 : decode cM_band 372 = .ok (.aload_n 0, 1) := by decide +kernel
theorem dM_band_373 : decode cM_band 373 = .ok (.getfield 129, 3) := by decide +kernel
theorem dM_band_376 : decode cM_band 376 = .ok (.aload_n 0, 1) := by decide +kernel
theorem dM_band_377 : decode cM_band 377 = .ok (.getfield 126, 3) := by decide +kernel
theorem dM_band_380 : decode cM_band 380 = .ok (.invokestatic 132, 3) := by decide +kernel
theorem dM_band_383 : decode cM_band 383 = .ok (.istore_n 2, 1) := by decide +kernel
theorem dM_band_384 : decode cM_band 384 = .ok (.iload_n 2, 1) := by decide +kernel
theorem dM_band_385 : decode cM_band 385 = .ok (.ifCond .lt 21, 3) := by decide +kernel
theorem dM_band_388 : decode cM_band 388 = .ok (.iload_n 2, 1) := by decide +kernel
theorem dM_band_389 : decode cM_band 389 = .ok (.ifCond .ne 21, 3) := by decide +kernel
theorem dM_band_392 : decode cM_band 392 = .ok (.aload_n 0, 1) := by decide +kernel
theorem dM_band_393 : decode cM_band 393 = .ok (.getfield 143, 3) := by decide +kernel
theorem dM_band_396 : decode cM_band 396 = .ok (.ifCond .ne 14, 3) := by decide +kernel
theorem dM_band_399 : decode cM_band 399 = .ok (.aload_n 0, 1) := by decide +kernel
theorem dM_band_400 : decode cM_band 400 = .ok (.getfield 136, 3) := by decide +kernel
theorem dM_band_403 : decode cM_band 403 = .ok (.ifCond .ne 7, 3) := by decide +kernel
theorem dM_band_406 : decode cM_band 406 = .ok (.iconst 1, 1) := by decide +kernel
theorem dM_band_407 : decode cM_band 407 = .ok (.goto 4, 3) := by decide +kernel
theorem dM_band_410 : decode cM_band 410 = .ok (.iconst 0, 1) := by decide +kernel
theorem dM_band_411 : decode cM_band 411 = .ok (.ireturn, 1) := by decide +kernel
theorem dM_begin_0 : decode cM_begin 0 = .ok (.aload_n 0, 1) := by decide +kernel
theorem dM_begin_1 : decode cM_begin 1 = .ok (.iconst 0, 1) := by decide +kernel
theorem dM_begin_2 : decode cM_begin 2 = .ok (.putfield 70, 3) := by decide +kernel
theorem dM_begin_5 : decode cM_begin 5 = .ok (.aload_n 0, 1) := by decide +kernel
theorem dM_begin_6 : decode cM_begin 6 = .ok (.iconst 0, 1) := by decide +kernel
theorem dM_begin_7 : decode cM_begin 7 = .ok (.putfield 146, 3) := by decide +kernel
theorem dM_begin_10 : decode cM_begin 10 = .ok (.return_, 1) := by decide +kernel
theorem dM_add_0 : decode cM_add 0 = .ok (.lload_n 1, 1) := by decide +kernel
theorem dM_add_1 : decode cM_add 1 = .ok (.lconst 0, 1) := by decide +kernel
theorem dM_add_2 : decode cM_add 2 = .ok (.lcmp, 1) := by decide +kernel
theorem dM_add_3 : decode cM_add 3 = .ok (.ifCond .ne 45, 3) := by decide +kernel
theorem dM_add_6 : decode cM_add 6 = .ok (.lload_n 3, 1) := by decide +kernel
theorem dM_add_7 : decode cM_add 7 = .ok (.lconst 0, 1) := by decide +kernel
theorem dM_add_8 : decode cM_add 8 = .ok (.lcmp, 1) := by decide +kernel
theorem dM_add_9 : decode cM_add 9 = .ok (.ifCond .ne 39, 3) := by decide +kernel
theorem dM_add_12 : decode cM_add 12 = .ok (.aload_n 0, 1) := by decide +kernel
theorem dM_add_13 : decode cM_add 13 = .ok (.aload_n 0, 1) := by decide +kernel
theorem dM_add_14 : decode cM_add 14 = .ok (.getfield 146, 3) := by decide +kernel
theorem dM_add_17 : decode cM_add 17 = .ok (.ifCond .ne 22, 3) := by decide +kernel
theorem dM_add_20 : decode cM_add 20 = .ok (.lload 5, 2) := by decide +kernel
theorem dM_add_22 : decode cM_add 22 = .ok (.lconst 0, 1) := by decide +kernel
theorem dM_add_23 : decode cM_add 23 = .ok (.lcmp, 1) := by decide +kernel
theorem dM_add_24 : decode cM_add 24 = .ok (.ifCond .lt 15, 3) := by decide +kernel
theorem dM_add_27 : decode cM_add 27 = .ok (.lload 5, 2) := by decide +kernel
theorem dM_add_29 : decode cM_add 29 = .ok (.lconst 0, 1) := by decide +kernel
theorem dM_add_30 : decode cM_add 30 = .ok (.lcmp, 1) := by decide +kernel
theorem dM_add_31 : decode cM_add 31 = .ok (.ifCond .ne 12, 3) := by decide +kernel
theorem dM_add_34 : decode cM_add 34 = .ok (.iload 7, 2) := by decide +kernel
