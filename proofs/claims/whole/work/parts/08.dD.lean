theorem dD_init_0 : decode cD_init 0 = .ok (.aload_n 0, 1) := by decide +kernel
theorem dD_init_1 : decode cD_init 1 = .ok (.invokespecial 3, 3) := by decide +kernel
theorem dD_init_4 : decode cD_init 4 = .ok (.aload_n 0, 1) := by decide +kernel
theorem dD_init_5 : decode cD_init 5 = .ok (.bipush 36, 2) := by decide +kernel
theorem dD_init_7 : decode cD_init 7 = .ok (.newarray .long, 2) := by decide +kernel
theorem dD_init_9 : decode cD_init 9 = .ok (.putfield 11, 3) := by decide +kernel
theorem dD_init_12 : decode cD_init 12 = .ok (.aload_n 0, 1) := by decide +kernel
theorem dD_init_13 : decode cD_init 13 = .ok (.bipush 36, 2) := by decide +kernel
theorem dD_init_15 : decode cD_init 15 = .ok (.newarray .long, 2) := by decide +kernel
theorem dD_init_17 : decode cD_init 17 = .ok (.putfield 15, 3) := by decide +kernel
theorem dD_init_20 : decode cD_init 20 = .ok (.aload_n 0, 1) := by decide +kernel
theorem dD_init_21 : decode cD_init 21 = .ok (.bipush 36, 2) := by decide +kernel
theorem dD_init_23 : decode cD_init 23 = .ok (.newarray .long, 2) := by decide +kernel
theorem dD_init_25 : decode cD_init 25 = .ok (.putfield 18, 3) := by decide +kernel
theorem dD_init_28 : decode cD_init 28 = .ok (.aload_n 0, 1) := by decide +kernel
theorem dD_init_29 : decode cD_init 29 = .ok (.bipush 36, 2) := by decide +kernel
theorem dD_init_31 : decode cD_init 31 = .ok (.newarray .boolean, 2) := by decide +kernel
theorem dD_init_33 : decode cD_init 33 = .ok (.putfield 21, 3) := by decide +kernel
theorem dD_init_36 : decode cD_init 36 = .ok (.aload_n 0, 1) := by decide +kernel
theorem dD_init_37 : decode cD_init 37 = .ok (.new 25, 3) := by decide +kernel
theorem dD_init_40 : decode cD_init 40 = .ok (.dup, 1) := by decide +kernel
theorem dD_init_41 : decode cD_init 41 = .ok (.invokespecial 27, 3) := by decide +kernel
theorem dD_init_44 : decode cD_init 44 = .ok (.putfield 28, 3) := by decide +kernel
theorem dD_init_47 : decode cD_init 47 = .ok (.return_, 1) := by decide +kernel
theorem dD_clear_0 : decode cD_clear 0 = .ok (.aload_n 0, 1) := by decide +kernel
theorem dD_clear_1 : decode cD_clear 1 = .ok (.iconst 0, 1) := by decide +kernel
theorem dD_clear_2 : decode cD_clear 2 = .ok (.putfield 32, 3) := by decide +kernel
theorem dD_clear_5 : decode cD_clear 5 = .ok (.return_, 1) := by decide +kernel
theorem dD_memberCount_0 : decode cD_memberCount 0 = .ok (.aload_n 0, 1) := by decide +kernel
theorem dD_memberCount_1 : decode cD_memberCount 1 = .ok (.getfield 32, 3) := by decide +kernel
theorem dD_memberCount_4 : decode cD_memberCount 4 = .ok (.ireturn, 1) := by decide +kernel
theorem dD_x_0 : decode cD_x 0 = .ok (.aload_n 0, 1) := by decide +kernel
theorem dD_x_1 : decode cD_x 1 = .ok (.getfield 11, 3) := by decide +kernel
theorem dD_x_4 : decode cD_x 4 = .ok (.iload_n 1, 1) := by decide +kernel
theorem dD_x_5 : decode cD_x 5 = .ok (.laload, 1) := by decide +kernel
theorem dD_x_6 : decode cD_x 6 = .ok (.lreturn, 1) := by decide +kernel
theorem dD_y_0 : decode cD_y 0 = .ok (.aload_n 0, 1) := by decide +kernel
theorem dD_y_1 : decode cD_y 1 = .ok (.getfield 15, 3) := by decide +kernel
theorem dD_y_4 : decode cD_y 4 = .ok (.iload_n 1, 1) := by decide +kernel
theorem dD_y_5 : decode cD_y 5 = .ok (.laload, 1) := by decide +kernel
theorem dD_y_6 : decode cD_y 6 = .ok (.lreturn, 1) := by decide +kernel
theorem dD_bound_0 : decode cD_bound 0 = .ok (.aload_n 0, 1) := by decide +kernel
theorem dD_bound_1 : decode cD_bound 1 = .ok (.getfield 18, 3) := by decide +kernel
theorem dD_bound_4 : decode cD_bound 4 = .ok (.iload_n 1, 1) := by decide +kernel
theorem dD_bound_5 : decode cD_bound 5 = .ok (.laload, 1) := by decide +kernel
theorem dD_bound_6 : decode cD_bound 6 = .ok (.lreturn, 1) := by decide +kernel
theorem dD_isStrict_0 : decode cD_isStrict 0 = .ok (.aload_n 0, 1) := by decide +kernel
theorem dD_isStrict_1 : decode cD_isStrict 1 = .ok (.getfield 21, 3) := by decide +kernel
theorem dD_isStrict_4 : decode cD_isStrict 4 = .ok (.iload_n 1, 1) := by decide +kernel
theorem dD_isStrict_5 : decode cD_isStrict 5 = .ok (.baload, 1) := by decide +kernel
theorem dD_isStrict_6 : decode cD_isStrict 6 = .ok (.ireturn, 1) := by decide +kernel
theorem dD_put_0 : decode cD_put 0 = .ok (.lload_n 1, 1) := by decide +kernel
theorem dD_put_1 : decode cD_put 1 = .ok (.lconst 0, 1) := by decide +kernel
theorem dD_put_2 : decode cD_put 2 = .ok (.lcmp, 1) := by decide +kernel
theorem dD_put_3 : decode cD_put 3 = .ok (.ifCond .ne 10, 3) := by decide +kernel
theorem dD_put_6 : decode cD_put 6 = .ok (.lload_n 3, 1) := by decide +kernel
theorem dD_put_7 : decode cD_put 7 = .ok (.lconst 0, 1) := by decide +kernel
theorem dD_put_8 : decode cD_put 8 = .ok (.lcmp, 1) := by decide +kernel
theorem dD_put_9 : decode cD_put 9 = .ok (.ifCond .ne 4, 3) := by decide +kernel
theorem dD_put_12 : decode cD_put 12 = .ok (.return_, 1) := by decide +kernel
theorem dD_put_13 : decode cD_put 13 = .ok (.lload_n 1, 1) := by decide +kernel
theorem dD_put_14 : decode cD_put 14 = .ok (.lload_n 3, 1) := by decide +kernel
theorem dD_put_15 : decode cD_put 15 = .ok (.invokestatic 36, 3) := by decide +kernel
theorem dD_put_18 : decode cD_put 18 = .ok (.lload 5, 2) := by decide +kernel
theorem dD_put_20 : decode cD_put 20 = .ok (.invokestatic 36, 3) := by decide +kernel
theorem dD_put_23 : decode cD_put 23 = .ok (.lstore 8, 2) := by decide +kernel
theorem dD_put_25 : decode cD_put 25 = .ok (.lload 8, 2) := by decide +kernel
theorem dD_put_27 : decode cD_put 27 = .ok (.lconst 1, 1) := by decide +kernel
theorem dD_put_28 : decode cD_put 28 = .ok (.lcmp, 1) := by decide +kernel
theorem dD_put_29 : decode cD_put 29 = .ok (.ifCond .le 25, 3) := by decide +kernel
theorem dD_put_32 : decode cD_put 32 = .ok (.aload_n 0, 1) := by decide +kernel
theorem dD_put_33 : decode cD_put 33 = .ok (.lload_n 1, 1) := by decide +kernel
theorem dD_put_34 : decode cD_put 34 = .ok (.lload 8, 2) := by decide +kernel
theorem dD_put_36 : decode cD_put 36 = .ok (.ldiv, 1) := by decide +kernel
theorem dD_put_37 : decode cD_put 37 = .ok (.lload_n 3, 1) := by decide +kernel
theorem dD_put_38 : decode cD_put 38 = .ok (.lload 8, 2) := by decide +kernel
theorem dD_put_40 : decode cD_put 40 = .ok (.ldiv, 1) := by decide +kernel
theorem dD_put_41 : decode cD_put 41 = .ok (.lload 5, 2) := by decide +kernel
theorem dD_put_43 : decode cD_put 43 = .ok (.lload 8, 2) := by decide +kernel
theorem dD_put_45 : decode cD_put 45 = .ok (.ldiv, 1) := by decide +kernel
theorem dD_put_46 : decode cD_put 46 = .ok (.iload 7, 2) := by decide +kernel
theorem dD_put_48 : decode cD_put 48 = .ok (.invokevirtual 40, 3) := by decide +kernel
theorem dD_put_51 : decode cD_put 51 = .ok (.goto 13, 3) := by decide +kernel
theorem dD_put_54 : decode cD_put 54 = .ok (.aload_n 0, 1) := by decide +kernel
theorem dD_put_55 : decode cD_put 55 = .ok (.lload_n 1, 1) := by decide +kernel
theorem dD_put_56 : decode cD_put 56 = .ok (.lload_n 3, 1) := by decide +kernel
theorem dD_put_57 : decode cD_put 57 = .ok (.lload 5, 2) := by decide +kernel
theorem dD_put_59 : decode cD_put 59 = .ok (.iload 7, 2) := by decide +kernel
theorem dD_put_61 : decode cD_put 61 = .ok (.invokevirtual 40, 3) := by decide +kernel
theorem dD_put_64 : decode cD_put 64 = .ok (.return_, 1) := by decide +kernel
theorem dD_insert_0 : decode cD_insert 0 = .ok (.iconst 0, 1) := by decide +kernel
theorem dD_insert_1 : decode cD_insert 1 = .ok (.istore 8, 2) := by decide +kernel
theorem dD_insert_3 : decode cD_insert 3 = .ok (.iload 8, 2) := by decide +kernel
theorem dD_insert_5 : decode cD_insert 5 = .ok (.aload_n 0, 1) := by decide +kernel
theorem dD_insert_6 : decode cD_insert 6 = .ok (.getfield 32, 3) := by decide +kernel
theorem dD_insert_9 : decode cD_insert 9 = .ok (.if_icmp .ge 45, 3) := by decide +kernel
theorem dD_insert_12 : decode cD_insert 12 = .ok (.aload_n 0, 1) := by decide +kernel
theorem dD_insert_13 : decode cD_insert 13 = .ok (.getfield 11, 3) := by decide +kernel
theorem dD_insert_16 : decode cD_insert 16 = .ok (.iload 8, 2) := by decide +kernel
theorem dD_insert_18 : decode cD_insert 18 = .ok (.laload, 1) := by decide +kernel
theorem dD_insert_19 : decode cD_insert 19 = .ok (.lload_n 1, 1) := by decide +kernel
theorem dD_insert_20 : decode cD_insert 20 = .ok (.lcmp, 1) := by decide +kernel
theorem dD_insert_21 : decode cD_insert 21 = .ok (.ifCond .lt 27, 3) := by decide +kernel
theorem dD_insert_24 : decode cD_insert 24 = .ok (.aload_n 0, 1) := by decide +kernel
theorem dD_insert_25 : decode cD_insert 25 = .ok (.getfield 11, 3) := by decide +kernel
theorem dD_insert_28 : decode cD_insert 28 = .ok (.iload 8, 2) := by decide +kernel
theorem dD_insert_30 : decode cD_insert 30 = .ok (.laload, 1) := by decide +kernel
theorem dD_insert_31 : decode cD_insert 31 = .ok (.lload_n 1, 1) := by decide +kernel
theorem dD_insert_32 : decode cD_insert 32 = .ok (.lcmp, 1) := by decide +kernel
theorem dD_insert_33 : decode cD_insert 33 = .ok (.ifCond .ne 21, 3) := by decide +kernel
theorem dD_insert_36 : decode cD_insert 36 = .ok (.aload_n 0, 1) := by decide +kernel
theorem dD_insert_37 : decode cD_insert 37 = .ok (.getfield 15, 3) := by decide +kernel
theorem dD_insert_40 : decode cD_insert 40 = .ok (.iload 8, 2) := by decide +kernel
theorem dD_insert_42 : decode cD_insert 42 = .ok (.laload, 1) := by decide +kernel
theorem dD_insert_43 : decode cD_insert 43 = .ok (.lload_n 3, 1) := by decide +kernel
theorem dD_insert_44 : decode cD_insert 44 = .ok (.lcmp, 1) := by decide +kernel
theorem dD_insert_45 : decode cD_insert 45 = .ok (.ifCond .ge 9, 3) := by decide +kernel
theorem dD_insert_48 : decode cD_insert 48 = .ok (.iinc 8 1, 3) := by decide +kernel
theorem dD_insert_51 : decode cD_insert 51 = .ok (.goto (-48), 3) := by decide +kernel
theorem dD_insert_54 : decode cD_insert 54 = .ok (.iload 8, 2) := by decide +kernel
theorem dD_insert_56 : decode cD_insert 56 = .ok (.aload_n 0, 1) := by decide +kernel
theorem dD_insert_57 : decode cD_insert 57 = .ok (.getfield 32, 3) := by decide +kernel
theorem dD_insert_60 : decode cD_insert 60 = .ok (.if_icmp .ge 38, 3) := by decide +kernel
theorem dD_insert_63 : decode cD_insert 63 = .ok (.aload_n 0, 1) := by decide +kernel
theorem dD_insert_64 : decode cD_insert 64 = .ok (.getfield 11, 3) := by decide +kernel
theorem dD_insert_67 : decode cD_insert 67 = .ok (.iload 8, 2) := by decide +kernel
theorem dD_insert_69 : decode cD_insert 69 = .ok (.laload, 1) := by decide +kernel
theorem dD_insert_70 : decode cD_insert 70 = .ok (.lload_n 1, 1) := by decide +kernel
theorem dD_insert_71 : decode cD_insert 71 = .ok (.lcmp, 1) := by decide +kernel
theorem dD_insert_72 : decode cD_insert 72 = .ok (.ifCond .ne 26, 3) := by decide +kernel
theorem dD_insert_75 : decode cD_insert 75 = .ok (.aload_n 0, 1) := by decide +kernel
theorem dD_insert_76 : decode cD_insert 76 = .ok (.getfield 15, 3) := by decide +kernel
theorem dD_insert_79 : decode cD_insert 79 = .ok (.iload 8, 2) := by decide +kernel
theorem dD_insert_81 : decode cD_insert 81 = .ok (.laload, 1) := by decide +kernel
theorem dD_insert_82 : decode cD_insert 82 = .ok (.lload_n 3, 1) := by decide +kernel
theorem dD_insert_83 : decode cD_insert 83 = .ok (.lcmp, 1) := by decide +kernel
theorem dD_insert_84 : decode cD_insert 84 = .ok (.ifCond .ne 14, 3) := by decide +kernel
theorem dD_insert_87 : decode cD_insert 87 = .ok (.aload_n 0, 1) := by decide +kernel
theorem dD_insert_88 : decode cD_insert 88 = .ok (.iload 8, 2) := by decide +kernel
theorem dD_insert_90 : decode cD_insert 90 = .ok (.lload 5, 2) := by decide +kernel
theorem dD_insert_92 : decode cD_insert 92 = .ok (.iload 7, 2) := by decide +kernel
theorem dD_insert_94 : decode cD_insert 94 = .ok (.invokevirtual 44, 3) := by decide +kernel
theorem dD_insert_97 : decode cD_insert 97 = .ok (.return_, 1) := by decide +kernel
theorem dD_insert_98 : decode cD_insert 98 = .ok (.aload_n 0, 1) := by decide +kernel
theorem dD_insert_99 : decode cD_insert 99 = .ok (.getfield 32, 3) := by decide +kernel
theorem dD_insert_102 : decode cD_insert 102 = .ok (.bipush 36, 2) := by decide +kernel
theorem dD_insert_104 : decode cD_insert 104 = .ok (.if_icmp .lt 4, 3) := by decide +kernel
theorem dD_insert_107 : decode cD_insert 107 = .ok (.return_, 1) := by decide +kernel
theorem dD_insert_108 : decode cD_insert 108 = .ok (.aload_n 0, 1) := by decide +kernel
theorem dD_insert_109 : decode cD_insert 109 = .ok (.getfield 32, 3) := by decide +kernel
theorem dD_insert_112 : decode cD_insert 112 = .ok (.istore 9, 2) := by decide +kernel
theorem dD_insert_114 : decode cD_insert 114 = .ok (.iload 9, 2) := by decide +kernel
theorem dD_insert_116 : decode cD_insert 116 = .ok (.iload 8, 2) := by decide +kernel
theorem dD_insert_118 : decode cD_insert 118 = .ok (.if_icmp .le 19, 3) := by decide +kernel
theorem dD_insert_121 : decode cD_insert 121 = .ok (.aload_n 0, 1) := by decide +kernel
theorem dD_insert_122 : decode cD_insert 122 = .ok (.iload 9, 2) := by decide +kernel
theorem dD_insert_124 : decode cD_insert 124 = .ok (.iconst 1, 1) := by decide +kernel
theorem dD_insert_125 : decode cD_insert 125 = .ok (.isub, 1) := by decide +kernel
theorem dD_insert_126 : decode cD_insert 126 = .ok (.iload 9, 2) := by decide +kernel
theorem dD_insert_128 : decode cD_insert 128 = .ok (.invokevirtual 48, 3) := by decide +kernel
theorem dD_insert_131 : decode cD_insert 131 = .ok (.iinc 9 (-1), 3) := by decide +kernel
theorem dD_insert_134 : decode cD_insert 134 = .ok (.goto (-20), 3) := by decide +kernel
theorem dD_insert_137 : decode cD_insert 137 = .ok (.aload_n 0, 1) := by decide +kernel
theorem dD_insert_138 : decode cD_insert 138 = .ok (.dup, 1) := by decide +kernel
theorem dD_insert_139 : decode cD_insert 139 = .ok (.getfield 32, 3) := by decide +kernel
theorem dD_insert_142 : decode cD_insert 142 = .ok (.iconst 1, 1) := by decide +kernel
theorem dD_insert_143 : decode cD_insert 143 = .ok (.iadd, 1) := by decide +kernel
theorem dD_insert_144 : decode cD_insert 144 = .ok (.putfield 32, 3) := by decide +kernel
theorem dD_insert_147 : decode cD_insert 147 = .ok (.aload_n 0, 1) := by decide +kernel
theorem dD_insert_148 : decode cD_insert 148 = .ok (.getfield 11, 3) := by decide +kernel
theorem dD_insert_151 : decode cD_insert 151 = .ok (.iload 8, 2) := by decide +kernel
theorem dD_insert_153 : decode cD_insert 153 = .ok (.lload_n 1, 1) := by decide +kernel
theorem dD_insert_154 : decode cD_insert 154 = .ok (.lastore, 1) := by decide +kernel
theorem dD_insert_155 : decode cD_insert 155 = .ok (.aload_n 0, 1) := by decide +kernel
theorem dD_insert_156 : decode cD_insert 156 = .ok (.getfield 15, 3) := by decide +kernel
theorem dD_insert_159 : decode cD_insert 159 = .ok (.iload 8, 2) := by decide +kernel
theorem dD_insert_161 : decode cD_insert 161 = .ok (.lload_n 3, 1) := by decide +kernel
theorem dD_insert_162 : decode cD_insert 162 = .ok (.lastore, 1) := by decide +kernel
theorem dD_insert_163 : decode cD_insert 163 = .ok (.aload_n 0, 1) := by decide +kernel
theorem dD_insert_164 : decode cD_insert 164 = .ok (.getfield 18, 3) := by decide +kernel
theorem dD_insert_167 : decode cD_insert 167 = .ok (.iload 8, 2) := by decide +kernel
theorem dD_insert_169 : decode cD_insert 169 = .ok (.lload 5, 2) := by decide +kernel
theorem dD_insert_171 : decode cD_insert 171 = .ok (.lastore, 1) := by decide +kernel
theorem dD_insert_172 : decode cD_insert 172 = .ok (.aload_n 0, 1) := by decide +kernel
theorem dD_insert_173 : decode cD_insert 173 = .ok (.getfield 21, 3) := by decide +kernel
theorem dD_insert_176 : decode cD_insert 176 = .ok (.iload 8, 2) := by decide +kernel
theorem dD_insert_178 : decode cD_insert 178 = .ok (.iload 7, 2) := by decide +kernel
theorem dD_insert_180 : decode cD_insert 180 = .ok (.bastore, 1) := by decide +kernel
theorem dD_insert_181 : decode cD_insert 181 = .ok (.return_, 1) := by decide +kernel
theorem dD_strengthen_0 : decode cD_strengthen 0 = .ok (.lload_n 2, 1) := by decide +kernel
theorem dD_strengthen_1 : decode cD_strengthen 1 = .ok (.aload_n 0, 1) := by decide +kernel
theorem dD_strengthen_2 : decode cD_strengthen 2 = .ok (.getfield 18, 3) := by decide +kernel
theorem dD_strengthen_5 : decode cD_strengthen 5 = .ok (.iload_n 1, 1) := by decide +kernel
theorem dD_strengthen_6 : decode cD_strengthen 6 = .ok (.laload, 1) := by decide +kernel
theorem dD_strengthen_7 : decode cD_strengthen 7 = .ok (.lcmp, 1) := by decide +kernel
theorem dD_strengthen_8 : decode cD_strengthen 8 = .ok (.ifCond .ge 21, 3) := by decide +kernel
theorem dD_strengthen_11 : decode cD_strengthen 11 = .ok (.aload_n 0, 1) := by decide +kernel
theorem dD_strengthen_12 : decode cD_strengthen 12 = .ok (.getfield 18, 3) := by decide +kernel
theorem dD_strengthen_15 : decode cD_strengthen 15 = .ok (.iload_n 1, 1) := by decide +kernel
theorem dD_strengthen_16 : decode cD_strengthen 16 = .ok (.lload_n 2, 1) := by decide +kernel
theorem dD_strengthen_17 : decode cD_strengthen 17 = .ok (.lastore, 1) := by decide +kernel
theorem dD_strengthen_18 : decode cD_strengthen 18 = .ok (.aload_n 0, 1) := by decide +kernel
theorem dD_strengthen_19 : decode cD_strengthen 19 = .ok (.getfield 21, 3) := by decide +kernel
theorem dD_strengthen_22 : decode cD_strengthen 22 = .ok (.iload_n 1, 1) := by decide +kernel
theorem dD_strengthen_23 : decode cD_strengthen 23 = .ok (.iload 4, 2) := by decide +kernel
theorem dD_strengthen_25 : decode cD_strengthen 25 = .ok (.bastore, 1) := by decide +kernel
theorem dD_strengthen_26 : decode cD_strengthen 26 = .ok (.goto 26, 3) := by decide +kernel
theorem dD_strengthen_29 : decode cD_strengthen 29 = .ok (.lload_n 2, 1) := by decide +kernel
theorem dD_strengthen_30 : decode cD_strengthen 30 = .ok (.aload_n 0, 1) := by decide +kernel
theorem dD_strengthen_31 : decode cD_strengthen 31 = .ok (.getfield 18, 3) := by decide +kernel
theorem dD_strengthen_34 : decode cD_strengthen 34 = .ok (.iload_n 1, 1) := by decide +kernel
theorem dD_strengthen_35 : decode cD_strengthen 35 = .ok (.laload, 1) := by decide +kernel
theorem dD_strengthen_36 : decode cD_strengthen 36 = .ok (.lcmp, 1) := by decide +kernel
theorem dD_strengthen_37 : decode cD_strengthen 37 = .ok (.ifCond .ne 15, 3) := by decide +kernel
theorem dD_strengthen_40 : decode cD_strengthen 40 = .ok (.iload 4, 2) := by decide +kernel
theorem dD_strengthen_42 : decode cD_strengthen 42 = .ok (.ifCond .eq 10, 3) := by decide +kernel
theorem dD_strengthen_45 : decode cD_strengthen 45 = .ok (.aload_n 0, 1) := by decide +kernel
theorem dD_strengthen_46 : decode cD_strengthen 46 = .ok (.getfield 21, 3) := by decide +kernel
theorem dD_strengthen_49 : decode cD_strengthen 49 = .ok (.iload_n 1, 1) := by decide +kernel
theorem dD_strengthen_50 : decode cD_strengthen 50 = .ok (.iconst 1, 1) := by decide +kernel
theorem dD_strengthen_51 : decode cD_strengthen 51 = .ok (.bastore, 1) := by decide +kernel
theorem dD_strengthen_52 : decode cD_strengthen 52 = .ok (.return_, 1) := by decide +kernel
theorem dD_move_0 : decode cD_move 0 = .ok (.aload_n 0, 1) := by decide +kernel
theorem dD_move_1 : decode cD_move 1 = .ok (.getfield 11, 3) := by decide +kernel
theorem dD_move_4 : decode cD_move 4 = .ok (.iload_n 2, 1) := by decide +kernel
theorem dD_move_5 : decode cD_move 5 = .ok (.aload_n 0, 1) := by decide +kernel
theorem dD_move_6 : decode cD_move 6 = .ok (.getfield 11, 3) := by decide +kernel
theorem dD_move_9 : decode cD_move 9 = .ok (.iload_n 1, 1) := by decide +kernel
theorem dD_move_10 : decode cD_move 10 = .ok (.laload, 1) := by decide +kernel
theorem dD_move_11 : decode cD_move 11 = .ok (.lastore, 1) := by decide +kernel
theorem dD_move_12 : decode cD_move 12 = .ok (.aload_n 0, 1) := by decide +kernel
theorem dD_move_13 : decode cD_move 13 = .ok (.getfield 15, 3) := by decide +kernel
theorem dD_move_16 : decode cD_move 16 = .ok (.iload_n 2, 1) := by decide +kernel
theorem dD_move_17 : decode cD_move 17 = .ok (.aload_n 0, 1) := by decide +kernel
theorem dD_move_18 : decode cD_move 18 = .ok (.getfield 15, 3) := by decide +kernel
theorem dD_move_21 : decode cD_move 21 = .ok (.iload_n 1, 1) := by decide +kernel
theorem dD_move_22 : decode cD_move 22 = .ok (.laload, 1) := by decide +kernel
theorem dD_move_23 : decode cD_move 23 = .ok (.lastore, 1) := by decide +kernel
theorem dD_move_24 : decode cD_move 24 = .ok (.aload_n 0, 1) := by decide +kernel
theorem dD_move_25 : decode cD_move 25 = .ok (.getfield 18, 3) := by decide +kernel
theorem dD_move_28 : decode cD_move 28 = .ok (.iload_n 2, 1) := by decide +kernel
theorem dD_move_29 : decode cD_move 29 = .ok (.aload_n 0, 1) := by decide +kernel
theorem dD_move_30 : decode cD_move 30 = .ok (.getfield 18, 3) := by decide +kernel
theorem dD_move_33 : decode cD_move 33 = .ok (.iload_n 1, 1) := by decide +kernel
theorem dD_move_34 : decode cD_move 34 = .ok (.laload, 1) := by decide +kernel
theorem dD_move_35 : decode cD_move 35 = .ok (.lastore, 1) := by decide +kernel
theorem dD_move_36 : decode cD_move 36 = .ok (.aload_n 0, 1) := by decide +kernel
theorem dD_move_37 : decode cD_move 37 = .ok (.getfield 21, 3) := by decide +kernel
theorem dD_move_40 : decode cD_move 40 = .ok (.iload_n 2, 1) := by decide +kernel
theorem dD_move_41 : decode cD_move 41 = .ok (.aload_n 0, 1) := by decide +kernel
theorem dD_move_42 : decode cD_move 42 = .ok (.getfield 21, 3) := by decide +kernel
theorem dD_move_45 : decode cD_move 45 = .ok (.iload_n 1, 1) := by decide +kernel
theorem dD_move_46 : decode cD_move 46 = .ok (.baload, 1) := by decide +kernel
theorem dD_move_47 : decode cD_move 47 = .ok (.bastore, 1) := by decide +kernel
theorem dD_move_48 : decode cD_move 48 = .ok (.return_, 1) := by decide +kernel
theorem dD_remove_0 : decode cD_remove 0 = .ok (.aload_n 0, 1) := by decide +kernel
theorem dD_remove_1 : decode cD_remove 1 = .ok (.dup, 1) := by decide +kernel
theorem dD_remove_2 : decode cD_remove 2 = .ok (.getfield 32, 3) := by decide +kernel
theorem dD_remove_5 : decode cD_remove 5 = .ok (.iconst 1, 1) := by decide +kernel
theorem dD_remove_6 : decode cD_remove 6 = .ok (.isub, 1) := by decide +kernel
theorem dD_remove_7 : decode cD_remove 7 = .ok (.putfield 32, 3) := by decide +kernel
theorem dD_remove_10 : decode cD_remove 10 = .ok (.iload_n 1, 1) := by decide +kernel
theorem dD_remove_11 : decode cD_remove 11 = .ok (.istore_n 2, 1) := by decide +kernel
theorem dD_remove_12 : decode cD_remove 12 = .ok (.iload_n 2, 1) := by decide +kernel
theorem dD_remove_13 : decode cD_remove 13 = .ok (.aload_n 0, 1) := by decide +kernel
theorem dD_remove_14 : decode cD_remove 14 = .ok (.getfield 32, 3) := by decide +kernel
theorem dD_remove_17 : decode cD_remove 17 = .ok (.if_icmp .ge 17, 3) := by decide +kernel
theorem dD_remove_20 : decode cD_remove 20 = .ok (.aload_n 0, 1) := by decide +kernel
theorem dD_remove_21 : decode cD_remove 21 = .ok (.iload_n 2, 1) := by decide +kernel
theorem dD_remove_22 : decode cD_remove 22 = .ok (.iconst 1, 1) := by decide +kernel
theorem dD_remove_23 : decode cD_remove 23 = .ok (.iadd, 1) := by decide +kernel
theorem dD_remove_24 : decode cD_remove 24 = .ok (.iload_n 2, 1) := by decide +kernel
theorem dD_remove_25 : decode cD_remove 25 = .ok (.invokevirtual 48, 3) := by decide +kernel
theorem dD_remove_28 : decode cD_remove 28 = .ok (.iinc 2 1, 3) := by decide +kernel
theorem dD_remove_31 : decode cD_remove 31 = .ok (.goto (-19), 3) := by decide +kernel
theorem dD_remove_34 : decode cD_remove 34 = .ok (.return_, 1) := by decide +kernel
theorem dD_flip_0 : decode cD_flip 0 = .ok (.aload_n 0, 1) := by decide +kernel
theorem dD_flip_1 : decode cD_flip 1 = .ok (.getfield 11, 3) := by decide +kernel
theorem dD_flip_4 : decode cD_flip 4 = .ok (.iload_n 1, 1) := by decide +kernel
theorem dD_flip_5 : decode cD_flip 5 = .ok (.aload_n 0, 1) := by decide +kernel
theorem dD_flip_6 : decode cD_flip 6 = .ok (.getfield 11, 3) := by decide +kernel
theorem dD_flip_9 : decode cD_flip 9 = .ok (.iload_n 1, 1) := by decide +kernel
theorem dD_flip_10 : decode cD_flip 10 = .ok (.laload, 1) := by decide +kernel
theorem dD_flip_11 : decode cD_flip 11 = .ok (.lneg, 1) := by decide +kernel
theorem dD_flip_12 : decode cD_flip 12 = .ok (.lastore, 1) := by decide +kernel
theorem dD_flip_13 : decode cD_flip 13 = .ok (.aload_n 0, 1) := by decide +kernel
theorem dD_flip_14 : decode cD_flip 14 = .ok (.getfield 15, 3) := by decide +kernel
theorem dD_flip_17 : decode cD_flip 17 = .ok (.iload_n 1, 1) := by decide +kernel
theorem dD_flip_18 : decode cD_flip 18 = .ok (.aload_n 0, 1) := by decide +kernel
theorem dD_flip_19 : decode cD_flip 19 = .ok (.getfield 15, 3) := by decide +kernel
theorem dD_flip_22 : decode cD_flip 22 = .ok (.iload_n 1, 1) := by decide +kernel
theorem dD_flip_23 : decode cD_flip 23 = .ok (.laload, 1) := by decide +kernel
theorem dD_flip_24 : decode cD_flip 24 = .ok (.lneg, 1) := by decide +kernel
theorem dD_flip_25 : decode cD_flip 25 = .ok (.lastore, 1) := by decide +kernel
theorem dD_flip_26 : decode cD_flip 26 = .ok (.aload_n 0, 1) := by decide +kernel
theorem dD_flip_27 : decode cD_flip 27 = .ok (.getfield 18, 3) := by decide +kernel
theorem dD_flip_30 : decode cD_flip 30 = .ok (.iload_n 1, 1) := by decide +kernel
theorem dD_flip_31 : decode cD_flip 31 = .ok (.aload_n 0, 1) := by decide +kernel
theorem dD_flip_32 : decode cD_flip 32 = .ok (.getfield 18, 3) := by decide +kernel
theorem dD_flip_35 : decode cD_flip 35 = .ok (.iload_n 1, 1) := by decide +kernel
theorem dD_flip_36 : decode cD_flip 36 = .ok (.laload, 1) := by decide +kernel
theorem dD_flip_37 : decode cD_flip 37 = .ok (.lneg, 1) := by decide +kernel
theorem dD_flip_38 : decode cD_flip 38 = .ok (.lastore, 1) := by decide +kernel
theorem dD_flip_39 : decode cD_flip 39 = .ok (.aload_n 0, 1) := by decide +kernel
theorem dD_flip_40 : decode cD_flip 40 = .ok (.getfield 21, 3) := by decide +kernel
theorem dD_flip_43 : decode cD_flip 43 = .ok (.iload_n 1, 1) := by decide +kernel
theorem dD_flip_44 : decode cD_flip 44 = .ok (.aload_n 0, 1) := by decide +kernel
theorem dD_flip_45 : decode cD_flip 45 = .ok (.getfield 21, 3) := by decide +kernel
theorem dD_flip_48 : decode cD_flip 48 = .ok (.iload_n 1, 1) := by decide +kernel
theorem dD_flip_49 : decode cD_flip 49 = .ok (.baload, 1) := by decide +kernel
theorem dD_flip_50 : decode cD_flip 50 = .ok (.ifCond .ne 7, 3) := by decide +kernel
theorem dD_flip_53 : decode cD_flip 53 = .ok (.iconst 1, 1) := by decide +kernel
theorem dD_flip_54 : decode cD_flip 54 = .ok (.goto 4, 3) := by decide +kernel
theorem dD_flip_57 : decode cD_flip 57 = .ok (.iconst 0, 1) := by decide +kernel
theorem dD_flip_58 : decode cD_flip 58 = .ok (.bastore, 1) := by decide +kernel
theorem dD_flip_59 : decode cD_flip 59 = .ok (.return_, 1) := by decide +kernel
theorem dD_hasPoints_0 : decode cD_hasPoints 0 = .ok (.aload_n 0, 1) := by decide +kernel
theorem dD_hasPoints_1 : decode cD_hasPoints 1 = .ok (.getfield 28, 3) := by decide +kernel
theorem dD_hasPoints_4 : decode cD_hasPoints 4 = .ok (.invokevirtual 52, 3) := by decide +kernel
theorem dD_hasPoints_7 : decode cD_hasPoints 7 = .ok (.iconst 0, 1) := by decide +kernel
theorem dD_hasPoints_8 : decode cD_hasPoints 8 = .ok (.istore_n 1, 1) := by decide +kernel
theorem dD_hasPoints_9 : decode cD_hasPoints 9 = .ok (.iload_n 1, 1) := by decide +kernel
theorem dD_hasPoints_10 : decode cD_hasPoints 10 = .ok (.aload_n 0, 1) := by decide +kernel
theorem dD_hasPoints_11 : decode cD_hasPoints 11 = .ok (.getfield 32, 3) := by decide +kernel
theorem dD_hasPoints_14 : decode cD_hasPoints 14 = .ok (.if_icmp .ge 167, 3) := by decide +kernel
theorem dD_hasPoints_17 : decode cD_hasPoints 17 = .ok (.aload_n 0, 1) := by decide +kernel
theorem dD_hasPoints_18 : decode cD_hasPoints 18 = .ok (.getfield 15, 3) := by decide +kernel
theorem dD_hasPoints_21 : decode cD_hasPoints 21 = .ok (.iload_n 1, 1) := by decide +kernel
theorem dD_hasPoints_22 : decode cD_hasPoints 22 = .ok (.laload, 1) := by decide +kernel
theorem dD_hasPoints_23 : decode cD_hasPoints 23 = .ok (.lstore_n 2, 1) := by decide +kernel
theorem dD_hasPoints_24 : decode cD_hasPoints 24 = .ok (.lload_n 2, 1) := by decide +kernel
theorem dD_hasPoints_25 : decode cD_hasPoints 25 = .ok (.lconst 0, 1) := by decide +kernel
theorem dD_hasPoints_26 : decode cD_hasPoints 26 = .ok (.lcmp, 1) := by decide +kernel
theorem dD_hasPoints_27 : decode cD_hasPoints 27 = .ok (.ifCond .ne 33, 3) := by decide +kernel
theorem dD_hasPoints_30 : decode cD_hasPoints 30 = .ok (.aload_n 0, 1) := by decide +kernel
theorem dD_hasPoints_31 : decode cD_hasPoints 31 = .ok (.getfield 28, 3) := by decide +kernel
theorem dD_hasPoints_34 : decode cD_hasPoints 34 = .ok (.aload_n 0, 1) := by decide +kernel
theorem dD_hasPoints_35 : decode cD_hasPoints 35 = .ok (.getfield 11, 3) := by decide +kernel
theorem dD_hasPoints_38 : decode cD_hasPoints 38 = .ok (.iload_n 1, 1) := by decide +kernel
theorem dD_hasPoints_39 : decode cD_hasPoints 39 = .ok (.laload, 1) := by decide +kernel
theorem dD_hasPoints_40 : decode cD_hasPoints 40 = .ok (.aload_n 0, 1) := by decide +kernel
theorem dD_hasPoints_41 : decode cD_hasPoints 41 = .ok (.getfield 18, 3) := by decide +kernel
theorem dD_hasPoints_44 : decode cD_hasPoints 44 = .ok (.iload_n 1, 1) := by decide +kernel
theorem dD_hasPoints_45 : decode cD_hasPoints 45 = .ok (.laload, 1) := by decide +kernel
theorem dD_hasPoints_46 : decode cD_hasPoints 46 = .ok (.aload_n 0, 1) := by decide +kernel
theorem dD_hasPoints_47 : decode cD_hasPoints 47 = .ok (.getfield 21, 3) := by decide +kernel
theorem dD_hasPoints_50 : decode cD_hasPoints 50 = .ok (.iload_n 1, 1) := by decide +kernel
theorem dD_hasPoints_51 : decode cD_hasPoints 51 = .ok (.baload, 1) := by decide +kernel
theorem dD_hasPoints_52 : decode cD_hasPoints 52 = .ok (.invokevirtual 55, 3) := by decide +kernel
theorem dD_hasPoints_55 : decode cD_hasPoints 55 = .ok (.ifCond .ne 5, 3) := by decide +kernel
theorem dD_hasPoints_58 : decode cD_hasPoints 58 = .ok (.iconst 0, 1) := by decide +kernel
theorem dD_hasPoints_59 : decode cD_hasPoints 59 = .ok (.ireturn, 1) := by decide +kernel
theorem dD_hasPoints_60 : decode cD_hasPoints 60 = .ok (.iconst 0, 1) := by decide +kernel
theorem dD_hasPoints_61 : decode cD_hasPoints 61 = .ok (.istore 4, 2) := by decide +kernel
theorem dD_hasPoints_63 : decode cD_hasPoints 63 = .ok (.lload_n 2, 1) := by decide +kernel
theorem dD_hasPoints_64 : decode cD_hasPoints 64 = .ok (.lconst 0, 1) := by decide +kernel
theorem dD_hasPoints_65 : decode cD_hasPoints 65 = .ok (.lcmp, 1) := by decide +kernel
theorem dD_hasPoints_66 : decode cD_hasPoints 66 = .ok (.ifCond .le 109, 3) := by decide +kernel
theorem dD_hasPoints_69 : decode cD_hasPoints 69 = .ok (.iload 4, 2) := by decide +kernel
theorem dD_hasPoints_71 : decode cD_hasPoints 71 = .ok (.aload_n 0, 1) := by decide +kernel
theorem dD_hasPoints_72 : decode cD_hasPoints 72 = .ok (.getfield 32, 3) := by decide +kernel
theorem dD_hasPoints_75 : decode cD_hasPoints 75 = .ok (.if_icmp .ge 100, 3) := by decide +kernel
theorem dD_hasPoints_78 : decode cD_hasPoints 78 = .ok (.aload_n 0, 1) := by decide +kernel
theorem dD_hasPoints_79 : decode cD_hasPoints 79 = .ok (.getfield 15, 3) := by decide +kernel
theorem dD_hasPoints_82 : decode cD_hasPoints 82 = .ok (.iload 4, 2) := by decide +kernel
theorem dD_hasPoints_84 : decode cD_hasPoints 84 = .ok (.laload, 1) := by decide +kernel
theorem dD_hasPoints_85 : decode cD_hasPoints 85 = .ok (.lneg, 1) := by decide +kernel
theorem dD_hasPoints_86 : decode cD_hasPoints 86 = .ok (.lstore 5, 2) := by decide +kernel
theorem dD_hasPoints_88 : decode cD_hasPoints 88 = .ok (.lload 5, 2) := by decide +kernel
theorem dD_hasPoints_90 : decode cD_hasPoints 90 = .ok (.lconst 0, 1) := by decide +kernel
theorem dD_hasPoints_91 : decode cD_hasPoints 91 = .ok (.lcmp, 1) := by decide +kernel
theorem dD_hasPoints_92 : decode cD_hasPoints 92 = .ok (.ifCond .le 77, 3) := by decide +kernel
theorem dD_hasPoints_95 : decode cD_hasPoints 95 = .ok (.aload_n 0, 1) := by decide +kernel
theorem dD_hasPoints_96 : decode cD_hasPoints 96 = .ok (.getfield 28, 3) := by decide +kernel
theorem dD_hasPoints_99 : decode cD_hasPoints 99 = .ok (.lload 5, 2) := by decide +kernel
theorem dD_hasPoints_101 : decode cD_hasPoints 101 = .ok (.aload_n 0, 1) := by decide +kernel
theorem dD_hasPoints_102 : decode cD_hasPoints 102 = .ok (.getfield 11, 3) := by decide +kernel
theorem dD_hasPoints_105 : decode cD_hasPoints 105 = .ok (.iload_n 1, 1) := by decide +kernel
theorem dD_hasPoints_106 : decode cD_hasPoints 106 = .ok (.laload, 1) := by decide +kernel
theorem dD_hasPoints_107 : decode cD_hasPoints 107 = .ok (.lmul, 1) := by decide +kernel
theorem dD_hasPoints_108 : decode cD_hasPoints 108 = .ok (.lload_n 2, 1) := by decide +kernel
theorem dD_hasPoints_109 : decode cD_hasPoints 109 = .ok (.aload_n 0, 1) := by decide +kernel
theorem dD_hasPoints_110 : decode cD_hasPoints 110 = .ok (.getfield 11, 3) := by decide +kernel
theorem dD_hasPoints_113 : decode cD_hasPoints 113 = .ok (.iload 4, 2) := by decide +kernel
theorem dD_hasPoints_115 : decode cD_hasPoints 115 = .ok (.laload, 1) := by decide +kernel
theorem dD_hasPoints_116 : decode cD_hasPoints 116 = .ok (.lmul, 1) := by decide +kernel
theorem dD_hasPoints_117 : decode cD_hasPoints 117 = .ok (.ladd, 1) := by decide +kernel
theorem dD_hasPoints_118 : decode cD_hasPoints 118 = .ok (.lload 5, 2) := by decide +kernel
theorem dD_hasPoints_120 : decode cD_hasPoints 120 = .ok (.aload_n 0, 1) := by decide +kernel
theorem dD_hasPoints_121 : decode cD_hasPoints 121 = .ok (.getfield 18, 3) := by decide +kernel
theorem dD_hasPoints_124 : decode cD_hasPoints 124 = .ok (.iload_n 1, 1) := by decide +kernel
theorem dD_hasPoints_125 : decode cD_hasPoints 125 = .ok (.laload, 1) := by decide +kernel
theorem dD_hasPoints_126 : decode cD_hasPoints 126 = .ok (.lmul, 1) := by decide +kernel
theorem dD_hasPoints_127 : decode cD_hasPoints 127 = .ok (.lload_n 2, 1) := by decide +kernel
theorem dD_hasPoints_128 : decode cD_hasPoints 128 = .ok (.aload_n 0, 1) := by decide +kernel
theorem dD_hasPoints_129 : decode cD_hasPoints 129 = .ok (.getfield 18, 3) := by decide +kernel
theorem dD_hasPoints_132 : decode cD_hasPoints 132 = .ok (.iload 4, 2) := by decide +kernel
theorem dD_hasPoints_134 : decode cD_hasPoints 134 = .ok (.laload, 1) := by decide +kernel
theorem dD_hasPoints_135 : decode cD_hasPoints 135 = .ok (.lmul, 1) := by decide +kernel
theorem dD_hasPoints_136 : decode cD_hasPoints 136 = .ok (.ladd, 1) := by decide +kernel
theorem dD_hasPoints_137 : decode cD_hasPoints 137 = .ok (.aload_n 0, 1) := by decide +kernel
theorem dD_hasPoints_138 : decode cD_hasPoints 138 = .ok (.getfield 21, 3) := by decide +kernel
theorem dD_hasPoints_141 : decode cD_hasPoints 141 = .ok (.iload_n 1, 1) := by decide +kernel
theorem dD_hasPoints_142 : decode cD_hasPoints 142 = .ok (.baload, 1) := by decide +kernel
theorem dD_hasPoints_143 : decode cD_hasPoints 143 = .ok (.ifCond .ne 13, 3) := by decide +kernel
theorem dD_hasPoints_146 : decode cD_hasPoints 146 = .ok (.aload_n 0, 1) := by decide +kernel
theorem dD_hasPoints_147 : decode cD_hasPoints 147 = .ok (.getfield 21, 3) := by decide +kernel
theorem dD_hasPoints_150 : decode cD_hasPoints 150 = .ok (.iload 4, 2) := by decide +kernel
theorem dD_hasPoints_152 : decode cD_hasPoints 152 = .ok (.baload, 1) := by decide +kernel
theorem dD_hasPoints_153 : decode cD_hasPoints 153 = .ok (.ifCond .eq 7, 3) := by decide +kernel
theorem dD_hasPoints_156 : decode cD_hasPoints 156 = .ok (.iconst 1, 1) := by decide +kernel
theorem dD_hasPoints_157 : decode cD_hasPoints 157 = .ok (.goto 4, 3) := by decide +kernel
theorem dD_hasPoints_160 : decode cD_hasPoints 160 = .ok (.iconst 0, 1) := by decide +kernel
theorem dD_hasPoints_161 : decode cD_hasPoints 161 = .ok (.invokevirtual 55, 3) := by decide +kernel
theorem dD_hasPoints_164 : decode cD_hasPoints 164 = .ok (.ifCond .ne 5, 3) := by decide +kernel
theorem dD_hasPoints_167 : decode cD_hasPoints 167 = .ok (.iconst 0, 1) := by decide +kernel
theorem dD_hasPoints_168 : decode cD_hasPoints 168 = .ok (.ireturn, 1) := by decide +kernel
theorem dD_hasPoints_169 : decode cD_hasPoints 169 = .ok (.iinc 4 1, 3) := by decide +kernel
theorem dD_hasPoints_172 : decode cD_hasPoints 172 = .ok (.goto (-109), 3) := by decide +kernel
theorem dD_hasPoints_175 : decode cD_hasPoints 175 = .ok (.iinc 1 1, 3) := by decide +kernel
theorem dD_hasPoints_178 : decode cD_hasPoints 178 = .ok (.goto (-169), 3) := by decide +kernel
theorem dD_hasPoints_181 : decode cD_hasPoints 181 = .ok (.iconst 1, 1) := by decide +kernel
theorem dD_hasPoints_182 : decode cD_hasPoints 182 = .ok (.ireturn, 1) := by decide +kernel
theorem dD_dropImplied_0 : decode cD_dropImplied 0 = .ok (.iconst 0, 1) := by decide +kernel
theorem dD_dropImplied_1 : decode cD_dropImplied 1 = .ok (.istore_n 1, 1) := by decide +kernel
theorem dD_dropImplied_2 : decode cD_dropImplied 2 = .ok (.aload_n 0, 1) := by decide +kernel
theorem dD_dropImplied_3 : decode cD_dropImplied 3 = .ok (.getfield 32, 3) := by decide +kernel
theorem dD_dropImplied_6 : decode cD_dropImplied 6 = .ok (.istore_n 2, 1) := by decide +kernel
theorem dD_dropImplied_7 : decode cD_dropImplied 7 = .ok (.iconst 0, 1) := by decide +kernel
theorem dD_dropImplied_8 : decode cD_dropImplied 8 = .ok (.istore_n 3, 1) := by decide +kernel
theorem dD_dropImplied_9 : decode cD_dropImplied 9 = .ok (.iload_n 3, 1) := by decide +kernel
theorem dD_dropImplied_10 : decode cD_dropImplied 10 = .ok (.iload_n 2, 1) := by decide +kernel
theorem dD_dropImplied_11 : decode cD_dropImplied 11 = .ok (.if_icmp .ge 41, 3) := by decide +kernel
theorem dD_dropImplied_14 : decode cD_dropImplied 14 = .ok (.aload_n 0, 1) := by decide +kernel
theorem dD_dropImplied_15 : decode cD_dropImplied 15 = .ok (.iload_n 1, 1) := by decide +kernel
theorem dD_dropImplied_16 : decode cD_dropImplied 16 = .ok (.invokevirtual 59, 3) := by decide +kernel
theorem dD_dropImplied_19 : decode cD_dropImplied 19 = .ok (.aload_n 0, 1) := by decide +kernel
theorem dD_dropImplied_20 : decode cD_dropImplied 20 = .ok (.invokevirtual 63, 3) := by decide +kernel
theorem dD_dropImplied_23 : decode cD_dropImplied 23 = .ok (.istore 4, 2) := by decide +kernel
theorem dD_dropImplied_25 : decode cD_dropImplied 25 = .ok (.aload_n 0, 1) := by decide +kernel
theorem dD_dropImplied_26 : decode cD_dropImplied 26 = .ok (.iload_n 1, 1) := by decide +kernel
theorem dD_dropImplied_27 : decode cD_dropImplied 27 = .ok (.invokevirtual 59, 3) := by decide +kernel
theorem dD_dropImplied_30 : decode cD_dropImplied 30 = .ok (.iload 4, 2) := by decide +kernel
theorem dD_dropImplied_32 : decode cD_dropImplied 32 = .ok (.ifCond .eq 9, 3) := by decide +kernel
theorem dD_dropImplied_35 : decode cD_dropImplied 35 = .ok (.iinc 1 1, 3) := by decide +kernel
theorem dD_dropImplied_38 : decode cD_dropImplied 38 = .ok (.goto 8, 3) := by decide +kernel
theorem dD_dropImplied_41 : decode cD_dropImplied 41 = .ok (.aload_n 0, 1) := by decide +kernel
theorem dD_dropImplied_42 : decode cD_dropImplied 42 = .ok (.iload_n 1, 1) := by decide +kernel
theorem dD_dropImplied_43 : decode cD_dropImplied 43 = .ok (.invokevirtual 67, 3) := by decide +kernel
theorem dD_dropImplied_46 : decode cD_dropImplied 46 = .ok (.iinc 3 1, 3) := by decide +kernel
theorem dD_dropImplied_49 : decode cD_dropImplied 49 = .ok (.goto (-40), 3) := by decide +kernel
theorem dD_dropImplied_52 : decode cD_dropImplied 52 = .ok (.return_, 1) := by decide +kernel
theorem dD_keepsLimits_0 : decode cD_keepsLimits 0 = .ok (.iconst 0, 1) := by decide +kernel
theorem dD_keepsLimits_1 : decode cD_keepsLimits 1 = .ok (.istore_n 1, 1) := by decide +kernel
theorem dD_keepsLimits_2 : decode cD_keepsLimits 2 = .ok (.iload_n 1, 1) := by decide +kernel
theorem dD_keepsLimits_3 : decode cD_keepsLimits 3 = .ok (.aload_n 0, 1) := by decide +kernel
theorem dD_keepsLimits_4 : decode cD_keepsLimits 4 = .ok (.getfield 32, 3) := by decide +kernel
theorem dD_keepsLimits_7 : decode cD_keepsLimits 7 = .ok (.if_icmp .ge 56, 3) := by decide +kernel
theorem dD_keepsLimits_10 : decode cD_keepsLimits 10 = .ok (.aload_n 0, 1) := by decide +kernel
theorem dD_keepsLimits_11 : decode cD_keepsLimits 11 = .ok (.getfield 11, 3) := by decide +kernel
theorem dD_keepsLimits_14 : decode cD_keepsLimits 14 = .ok (.iload_n 1, 1) := by decide +kernel
theorem dD_keepsLimits_15 : decode cD_keepsLimits 15 = .ok (.laload, 1) := by decide +kernel
theorem dD_keepsLimits_16 : decode cD_keepsLimits 16 = .ok (.ldc2_w 70, 3) := by decide +kernel
theorem dD_keepsLimits_19 : decode cD_keepsLimits 19 = .ok (.invokestatic 72, 3) := by decide +kernel
theorem dD_keepsLimits_22 : decode cD_keepsLimits 22 = .ok (.ifCond .ne 33, 3) := by decide +kernel
theorem dD_keepsLimits_25 : decode cD_keepsLimits 25 = .ok (.aload_n 0, 1) := by decide +kernel
theorem dD_keepsLimits_26 : decode cD_keepsLimits 26 = .ok (.getfield 15, 3) := by decide +kernel
theorem dD_keepsLimits_29 : decode cD_keepsLimits 29 = .ok (.iload_n 1, 1) := by decide +kernel
theorem dD_keepsLimits_30 : decode cD_keepsLimits 30 = .ok (.laload, 1) := by decide +kernel
theorem dD_keepsLimits_31 : decode cD_keepsLimits 31 = .ok (.ldc2_w 70, 3) := by decide +kernel
theorem dD_keepsLimits_34 : decode cD_keepsLimits 34 = .ok (.invokestatic 72, 3) := by decide +kernel
theorem dD_keepsLimits_37 : decode cD_keepsLimits 37 = .ok (.ifCond .ne 18, 3) := by decide +kernel
theorem dD_keepsLimits_40 : decode cD_keepsLimits 40 = .ok (.aload_n 0, 1) := by decide +kernel
theorem dD_keepsLimits_41 : decode cD_keepsLimits 41 = .ok (.getfield 18, 3) := by decide +kernel
theorem dD_keepsLimits_44 : decode cD_keepsLimits 44 = .ok (.iload_n 1, 1) := by decide +kernel
theorem dD_keepsLimits_45 : decode cD_keepsLimits 45 = .ok (.laload, 1) := by decide +kernel
theorem dD_keepsLimits_46 : decode cD_keepsLimits 46 = .ok (.ldc2_w 70, 3) := by decide +kernel
theorem dD_keepsLimits_49 : decode cD_keepsLimits 49 = .ok (.invokestatic 72, 3) := by decide +kernel
theorem dD_keepsLimits_52 : decode cD_keepsLimits 52 = .ok (.ifCond .eq 5, 3) := by decide +kernel
theorem dD_keepsLimits_55 : decode cD_keepsLimits 55 = .ok (.iconst 0, 1) := by decide +kernel
theorem dD_keepsLimits_56 : decode cD_keepsLimits 56 = .ok (.ireturn, 1) := by decide +kernel
theorem dD_keepsLimits_57 : decode cD_keepsLimits 57 = .ok (.iinc 1 1, 3) := by decide +kernel
theorem dD_keepsLimits_60 : decode cD_keepsLimits 60 = .ok (.goto (-58), 3) := by decide +kernel
theorem dD_keepsLimits_63 : decode cD_keepsLimits 63 = .ok (.aload_n 0, 1) := by decide +kernel
theorem dD_keepsLimits_64 : decode cD_keepsLimits 64 = .ok (.getfield 32, 3) := by decide +kernel
theorem dD_keepsLimits_67 : decode cD_keepsLimits 67 = .ok (.bipush 12, 2) := by decide +kernel
theorem dD_keepsLimits_69 : decode cD_keepsLimits 69 = .ok (.if_icmp .gt 7, 3) := by decide +kernel
theorem dD_keepsLimits_72 : decode cD_keepsLimits 72 = .ok (.iconst 1, 1) := by decide +kernel
theorem dD_keepsLimits_73 : decode cD_keepsLimits 73 = .ok (.goto 4, 3) := by decide +kernel
theorem dD_keepsLimits_76 : decode cD_keepsLimits 76 = .ok (.iconst 0, 1) := by decide +kernel
theorem dD_keepsLimits_77 : decode cD_keepsLimits 77 = .ok (.ireturn, 1) := by decide +kernel
