theorem dM_add_36 : decode cM_add 36 = .ok (.ifCond .eq 7, 3) := by decide +kernel
theorem dM_add_39 : decode cM_add 39 = .ok (.iconst 1, 1) := by decide +kernel
theorem dM_add_40 : decode cM_add 40 = .ok (.goto 4, 3) := by decide +kernel
theorem dM_add_43 : decode cM_add 43 = .ok (.iconst 0, 1) := by decide +kernel
theorem dM_add_44 : decode cM_add 44 = .ok (.putfield 146, 3) := by decide +kernel
theorem dM_add_47 : decode cM_add 47 = .ok (.return_, 1) := by decide +kernel
theorem dM_add_48 : decode cM_add 48 = .ok (.aload_n 0, 1) := by decide +kernel
theorem dM_add_49 : decode cM_add 49 = .ok (.getfield 41, 3) := by decide +kernel
theorem dM_add_52 : decode cM_add 52 = .ok (.aload_n 0, 1) := by decide +kernel
theorem dM_add_53 : decode cM_add 53 = .ok (.getfield 70, 3) := by decide +kernel
theorem dM_add_56 : decode cM_add 56 = .ok (.lload_n 1, 1) := by decide +kernel
theorem dM_add_57 : decode cM_add 57 = .ok (.lastore, 1) := by decide +kernel
theorem dM_add_58 : decode cM_add 58 = .ok (.aload_n 0, 1) := by decide +kernel
theorem dM_add_59 : decode cM_add 59 = .ok (.getfield 45, 3) := by decide +kernel
theorem dM_add_62 : decode cM_add 62 = .ok (.aload_n 0, 1) := by decide +kernel
theorem dM_add_63 : decode cM_add 63 = .ok (.getfield 70, 3) := by decide +kernel
theorem dM_add_66 : decode cM_add 66 = .ok (.lload_n 3, 1) := by decide +kernel
theorem dM_add_67 : decode cM_add 67 = .ok (.lastore, 1) := by decide +kernel
theorem dM_add_68 : decode cM_add 68 = .ok (.aload_n 0, 1) := by decide +kernel
theorem dM_add_69 : decode cM_add 69 = .ok (.getfield 48, 3) := by decide +kernel
theorem dM_add_72 : decode cM_add 72 = .ok (.aload_n 0, 1) := by decide +kernel
theorem dM_add_73 : decode cM_add 73 = .ok (.getfield 70, 3) := by decide +kernel
theorem dM_add_76 : decode cM_add 76 = .ok (.lload 5, 2) := by decide +kernel
theorem dM_add_78 : decode cM_add 78 = .ok (.lastore, 1) := by decide +kernel
theorem dM_add_79 : decode cM_add 79 = .ok (.aload_n 0, 1) := by decide +kernel
theorem dM_add_80 : decode cM_add 80 = .ok (.getfield 51, 3) := by decide +kernel
theorem dM_add_83 : decode cM_add 83 = .ok (.aload_n 0, 1) := by decide +kernel
theorem dM_add_84 : decode cM_add 84 = .ok (.getfield 70, 3) := by decide +kernel
theorem dM_add_87 : decode cM_add 87 = .ok (.iload 7, 2) := by decide +kernel
theorem dM_add_89 : decode cM_add 89 = .ok (.bastore, 1) := by decide +kernel
theorem dM_add_90 : decode cM_add 90 = .ok (.aload_n 0, 1) := by decide +kernel
theorem dM_add_91 : decode cM_add 91 = .ok (.dup, 1) := by decide +kernel
theorem dM_add_92 : decode cM_add 92 = .ok (.getfield 70, 3) := by decide +kernel
theorem dM_add_95 : decode cM_add 95 = .ok (.iconst 1, 1) := by decide +kernel
theorem dM_add_96 : decode cM_add 96 = .ok (.iadd, 1) := by decide +kernel
theorem dM_add_97 : decode cM_add 97 = .ok (.putfield 70, 3) := by decide +kernel
theorem dM_add_100 : decode cM_add 100 = .ok (.return_, 1) := by decide +kernel
theorem dM_addRow_0 : decode cM_addRow 0 = .ok (.iconst 0, 1) := by decide +kernel
theorem dM_addRow_1 : decode cM_addRow 1 = .ok (.istore 4, 2) := by decide +kernel
theorem dM_addRow_3 : decode cM_addRow 3 = .ok (.iload 4, 2) := by decide +kernel
theorem dM_addRow_5 : decode cM_addRow 5 = .ok (.iload_n 3, 1) := by decide +kernel
theorem dM_addRow_6 : decode cM_addRow 6 = .ok (.if_icmp .ge 53, 3) := by decide +kernel
theorem dM_addRow_9 : decode cM_addRow 9 = .ok (.iload_n 1, 1) := by decide +kernel
theorem dM_addRow_10 : decode cM_addRow 10 = .ok (.iload_n 2, 1) := by decide +kernel
theorem dM_addRow_11 : decode cM_addRow 11 = .ok (.iload 4, 2) := by decide +kernel
theorem dM_addRow_13 : decode cM_addRow 13 = .ok (.invokestatic 149, 3) := by decide +kernel
theorem dM_addRow_16 : decode cM_addRow 16 = .ok (.istore 5, 2) := by decide +kernel
theorem dM_addRow_18 : decode cM_addRow 18 = .ok (.aload_n 0, 1) := by decide +kernel
theorem dM_addRow_19 : decode cM_addRow 19 = .ok (.aload_n 0, 1) := by decide +kernel
theorem dM_addRow_20 : decode cM_addRow 20 = .ok (.getfield 16, 3) := by decide +kernel
theorem dM_addRow_23 : decode cM_addRow 23 = .ok (.iload 5, 2) := by decide +kernel
theorem dM_addRow_25 : decode cM_addRow 25 = .ok (.iaload, 1) := by decide +kernel
theorem dM_addRow_26 : decode cM_addRow 26 = .ok (.i2l, 1) := by decide +kernel
theorem dM_addRow_27 : decode cM_addRow 27 = .ok (.aload_n 0, 1) := by decide +kernel
theorem dM_addRow_28 : decode cM_addRow 28 = .ok (.getfield 19, 3) := by decide +kernel
theorem dM_addRow_31 : decode cM_addRow 31 = .ok (.iload 5, 2) := by decide +kernel
theorem dM_addRow_33 : decode cM_addRow 33 = .ok (.iaload, 1) := by decide +kernel
theorem dM_addRow_34 : decode cM_addRow 34 = .ok (.i2l, 1) := by decide +kernel
theorem dM_addRow_35 : decode cM_addRow 35 = .ok (.aload_n 0, 1) := by decide +kernel
theorem dM_addRow_36 : decode cM_addRow 36 = .ok (.getfield 22, 3) := by decide +kernel
theorem dM_addRow_39 : decode cM_addRow 39 = .ok (.iload 5, 2) := by decide +kernel
theorem dM_addRow_41 : decode cM_addRow 41 = .ok (.iaload, 1) := by decide +kernel
theorem dM_addRow_42 : decode cM_addRow 42 = .ok (.i2l, 1) := by decide +kernel
theorem dM_addRow_43 : decode cM_addRow 43 = .ok (.aload_n 0, 1) := by decide +kernel
theorem dM_addRow_44 : decode cM_addRow 44 = .ok (.getfield 25, 3) := by decide +kernel
theorem dM_addRow_47 : decode cM_addRow 47 = .ok (.iload 5, 2) := by decide +kernel
theorem dM_addRow_49 : decode cM_addRow 49 = .ok (.baload, 1) := by decide +kernel
theorem dM_addRow_50 : decode cM_addRow 50 = .ok (.invokevirtual 153, 3) := by decide +kernel
theorem dM_addRow_53 : decode cM_addRow 53 = .ok (.iinc 4 1, 3) := by decide +kernel
theorem dM_addRow_56 : decode cM_addRow 56 = .ok (.goto (-53), 3) := by decide +kernel
theorem dM_addRow_59 : decode cM_addRow 59 = .ok (.return_, 1) := by decide +kernel
theorem dM_divisor_0 : decode cM_divisor 0 = .ok (.lload_n 0, 1) := by decide +kernel
theorem dM_divisor_1 : decode cM_divisor 1 = .ok (.lconst 0, 1) := by decide +kernel
theorem dM_divisor_2 : decode cM_divisor 2 = .ok (.lcmp, 1) := by decide +kernel
theorem dM_divisor_3 : decode cM_divisor 3 = .ok (.ifCond .ge 8, 3) := by decide +kernel
theorem dM_divisor_6 : decode cM_divisor 6 = .ok (.lload_n 0, 1) := by decide +kernel
theorem dM_divisor_7 : decode cM_divisor 7 = .ok (.lneg, 1) := by decide +kernel
theorem dM_divisor_8 : decode cM_divisor 8 = .ok (.goto 4, 3) := by decide +kernel
theorem dM_divisor_11 : decode cM_divisor 11 = .ok (.lload_n 0, 1) := by decide +kernel
theorem dM_divisor_12 : decode cM_divisor 12 = .ok (.lstore 4, 2) := by decide +kernel
theorem dM_divisor_14 : decode cM_divisor 14 = .ok (.lload_n 2, 1) := by decide +kernel
theorem dM_divisor_15 : decode cM_divisor 15 = .ok (.lconst 0, 1) := by decide +kernel
theorem dM_divisor_16 : decode cM_divisor 16 = .ok (.lcmp, 1) := by decide +kernel
theorem dM_divisor_17 : decode cM_divisor 17 = .ok (.ifCond .ge 8, 3) := by decide +kernel
theorem dM_divisor_20 : decode cM_divisor 20 = .ok (.lload_n 2, 1) := by decide +kernel
theorem dM_divisor_21 : decode cM_divisor 21 = .ok (.lneg, 1) := by decide +kernel
theorem dM_divisor_22 : decode cM_divisor 22 = .ok (.goto 4, 3) := by decide +kernel
theorem dM_divisor_25 : decode cM_divisor 25 = .ok (.lload_n 2, 1) := by decide +kernel
theorem dM_divisor_26 : decode cM_divisor 26 = .ok (.lstore 6, 2) := by decide +kernel
theorem dM_divisor_28 : decode cM_divisor 28 = .ok (.lload 6, 2) := by decide +kernel
theorem dM_divisor_30 : decode cM_divisor 30 = .ok (.lconst 0, 1) := by decide +kernel
theorem dM_divisor_31 : decode cM_divisor 31 = .ok (.lcmp, 1) := by decide +kernel
theorem dM_divisor_32 : decode cM_divisor 32 = .ok (.ifCond .le 21, 3) := by decide +kernel
theorem dM_divisor_35 : decode cM_divisor 35 = .ok (.lload 4, 2) := by decide +kernel
theorem dM_divisor_37 : decode cM_divisor 37 = .ok (.lload 6, 2) := by decide +kernel
theorem dM_divisor_39 : decode cM_divisor 39 = .ok (.lrem, 1) := by decide +kernel
theorem dM_divisor_40 : decode cM_divisor 40 = .ok (.lstore 8, 2) := by decide +kernel
theorem dM_divisor_42 : decode cM_divisor 42 = .ok (.lload 6, 2) := by decide +kernel
theorem dM_divisor_44 : decode cM_divisor 44 = .ok (.lstore 4, 2) := by decide +kernel
theorem dM_divisor_46 : decode cM_divisor 46 = .ok (.lload 8, 2) := by decide +kernel
theorem dM_divisor_48 : decode cM_divisor 48 = .ok (.lstore 6, 2) := by decide +kernel
theorem dM_divisor_50 : decode cM_divisor 50 = .ok (.goto (-22), 3) := by decide +kernel
theorem dM_divisor_53 : decode cM_divisor 53 = .ok (.lload 4, 2) := by decide +kernel
theorem dM_divisor_55 : decode cM_divisor 55 = .ok (.lreturn, 1) := by decide +kernel
theorem dM_isBefore_0 : decode cM_isBefore 0 = .ok (.aload_n 0, 1) := by decide +kernel
theorem dM_isBefore_1 : decode cM_isBefore 1 = .ok (.getfield 41, 3) := by decide +kernel
theorem dM_isBefore_4 : decode cM_isBefore 4 = .ok (.iload_n 1, 1) := by decide +kernel
theorem dM_isBefore_5 : decode cM_isBefore 5 = .ok (.laload, 1) := by decide +kernel
theorem dM_isBefore_6 : decode cM_isBefore 6 = .ok (.aload_n 0, 1) := by decide +kernel
theorem dM_isBefore_7 : decode cM_isBefore 7 = .ok (.getfield 41, 3) := by decide +kernel
theorem dM_isBefore_10 : decode cM_isBefore 10 = .ok (.iload_n 2, 1) := by decide +kernel
theorem dM_isBefore_11 : decode cM_isBefore 11 = .ok (.laload, 1) := by decide +kernel
theorem dM_isBefore_12 : decode cM_isBefore 12 = .ok (.lcmp, 1) := by decide +kernel
theorem dM_isBefore_13 : decode cM_isBefore 13 = .ok (.ifCond .eq 25, 3) := by decide +kernel
theorem dM_isBefore_16 : decode cM_isBefore 16 = .ok (.aload_n 0, 1) := by decide +kernel
theorem dM_isBefore_17 : decode cM_isBefore 17 = .ok (.getfield 41, 3) := by decide +kernel
theorem dM_isBefore_20 : decode cM_isBefore 20 = .ok (.iload_n 1, 1) := by decide +kernel
theorem dM_isBefore_21 : decode cM_isBefore 21 = .ok (.laload, 1) := by decide +kernel
theorem dM_isBefore_22 : decode cM_isBefore 22 = .ok (.aload_n 0, 1) := by decide +kernel
theorem dM_isBefore_23 : decode cM_isBefore 23 = .ok (.getfield 41, 3) := by decide +kernel
theorem dM_isBefore_26 : decode cM_isBefore 26 = .ok (.iload_n 2, 1) := by decide +kernel
theorem dM_isBefore_27 : decode cM_isBefore 27 = .ok (.laload, 1) := by decide +kernel
theorem dM_isBefore_28 : decode cM_isBefore 28 = .ok (.lcmp, 1) := by decide +kernel
theorem dM_isBefore_29 : decode cM_isBefore 29 = .ok (.ifCond .ge 7, 3) := by decide +kernel
theorem dM_isBefore_32 : decode cM_isBefore 32 = .ok (.iconst 1, 1) := by decide +kernel
theorem dM_isBefore_33 : decode cM_isBefore 33 = .ok (.goto 4, 3) := by decide +kernel
theorem dM_isBefore_36 : decode cM_isBefore 36 = .ok (.iconst 0, 1) := by decide +kernel
theorem dM_isBefore_37 : decode cM_isBefore 37 = .ok (.ireturn, 1) := by decide +kernel
theorem dM_isBefore_38 : decode cM_isBefore 38 = .ok (.aload_n 0, 1) := by decide +kernel
theorem dM_isBefore_39 : decode cM_isBefore 39 = .ok (.getfield 45, 3) := by decide +kernel
theorem dM_isBefore_42 : decode cM_isBefore 42 = .ok (.iload_n 1, 1) := by decide +kernel
theorem dM_isBefore_43 : decode cM_isBefore 43 = .ok (.laload, 1) := by decide +kernel
theorem dM_isBefore_44 : decode cM_isBefore 44 = .ok (.aload_n 0, 1) := by decide +kernel
theorem dM_isBefore_45 : decode cM_isBefore 45 = .ok (.getfield 45, 3) := by decide +kernel
theorem dM_isBefore_48 : decode cM_isBefore 48 = .ok (.iload_n 2, 1) := by decide +kernel
theorem dM_isBefore_49 : decode cM_isBefore 49 = .ok (.laload, 1) := by decide +kernel
theorem dM_isBefore_50 : decode cM_isBefore 50 = .ok (.lcmp, 1) := by decide +kernel
theorem dM_isBefore_51 : decode cM_isBefore 51 = .ok (.ifCond .eq 25, 3) := by decide +kernel
theorem dM_isBefore_54 : decode cM_isBefore 54 = .ok (.aload_n 0, 1) := by decide +kernel
theorem dM_isBefore_55 : decode cM_isBefore 55 = .ok (.getfield 45, 3) := by decide +kernel
theorem dM_isBefore_58 : decode cM_isBefore 58 = .ok (.iload_n 1, 1) := by decide +kernel
theorem dM_isBefore_59 : decode cM_isBefore 59 = .ok (.laload, 1) := by decide +kernel
theorem dM_isBefore_60 : decode cM_isBefore 60 = .ok (.aload_n 0, 1) := by decide +kernel
theorem dM_isBefore_61 : decode cM_isBefore 61 = .ok (.getfield 45, 3) := by decide +kernel
theorem dM_isBefore_64 : decode cM_isBefore 64 = .ok (.iload_n 2, 1) := by decide +kernel
theorem dM_isBefore_65 : decode cM_isBefore 65 = .ok (.laload, 1) := by decide +kernel
theorem dM_isBefore_66 : decode cM_isBefore 66 = .ok (.lcmp, 1) := by decide +kernel
theorem dM_isBefore_67 : decode cM_isBefore 67 = .ok (.ifCond .ge 7, 3) := by decide +kernel
theorem dM_isBefore_70 : decode cM_isBefore 70 = .ok (.iconst 1, 1) := by decide +kernel
theorem dM_isBefore_71 : decode cM_isBefore 71 = .ok (.goto 4, 3) := by decide +kernel
theorem dM_isBefore_74 : decode cM_isBefore 74 = .ok (.iconst 0, 1) := by decide +kernel
theorem dM_isBefore_75 : decode cM_isBefore 75 = .ok (.ireturn, 1) := by decide +kernel
theorem dM_isBefore_76 : decode cM_isBefore 76 = .ok (.aload_n 0, 1) := by decide +kernel
theorem dM_isBefore_77 : decode cM_isBefore 77 = .ok (.getfield 48, 3) := by decide +kernel
theorem dM_isBefore_80 : decode cM_isBefore 80 = .ok (.iload_n 1, 1) := by decide +kernel
theorem dM_isBefore_81 : decode cM_isBefore 81 = .ok (.laload, 1) := by decide +kernel
theorem dM_isBefore_82 : decode cM_isBefore 82 = .ok (.aload_n 0, 1) := by decide +kernel
theorem dM_isBefore_83 : decode cM_isBefore 83 = .ok (.getfield 48, 3) := by decide +kernel
theorem dM_isBefore_86 : decode cM_isBefore 86 = .ok (.iload_n 2, 1) := by decide +kernel
theorem dM_isBefore_87 : decode cM_isBefore 87 = .ok (.laload, 1) := by decide +kernel
theorem dM_isBefore_88 : decode cM_isBefore 88 = .ok (.lcmp, 1) := by decide +kernel
theorem dM_isBefore_89 : decode cM_isBefore 89 = .ok (.ifCond .eq 25, 3) := by decide +kernel
theorem dM_isBefore_92 : decode cM_isBefore 92 = .ok (.aload_n 0, 1) := by decide +kernel
theorem dM_isBefore_93 : decode cM_isBefore 93 = .ok (.getfield 48, 3) := by decide +kernel
theorem dM_isBefore_96 : decode cM_isBefore 96 = .ok (.iload_n 1, 1) := by decide +kernel
theorem dM_isBefore_97 : decode cM_isBefore 97 = .ok (.laload, 1) := by decide +kernel
theorem dM_isBefore_98 : decode cM_isBefore 98 = .ok (.aload_n 0, 1) := by decide +kernel
theorem dM_isBefore_99 : decode cM_isBefore 99 = .ok (.getfield 48, 3) := by decide +kernel
theorem dM_isBefore_102 : decode cM_isBefore 102 = .ok (.iload_n 2, 1) := by decide +kernel
theorem dM_isBefore_103 : decode cM_isBefore 103 = .ok (.laload, 1) := by decide +kernel
theorem dM_isBefore_104 : decode cM_isBefore 104 = .ok (.lcmp, 1) := by decide +kernel
theorem dM_isBefore_105 : decode cM_isBefore 105 = .ok (.ifCond .ge 7, 3) := by decide +kernel
theorem dM_isBefore_108 : decode cM_isBefore 108 = .ok (.iconst 1, 1) := by decide +kernel
theorem dM_isBefore_109 : decode cM_isBefore 109 = .ok (.goto 4, 3) := by decide +kernel
theorem dM_isBefore_112 : decode cM_isBefore 112 = .ok (.iconst 0, 1) := by decide +kernel
theorem dM_isBefore_113 : decode cM_isBefore 113 = .ok (.ireturn, 1) := by decide +kernel
theorem dM_isBefore_114 : decode cM_isBefore 114 = .ok (.aload_n 0, 1) := by decide +kernel
theorem dM_isBefore_115 : decode cM_isBefore 115 = .ok (.getfield 51, 3) := by decide +kernel
theorem dM_isBefore_118 : decode cM_isBefore 118 = .ok (.iload_n 1, 1) := by decide +kernel
theorem dM_isBefore_119 : decode cM_isBefore 119 = .ok (.baload, 1) := by decide +kernel
theorem dM_isBefore_120 : decode cM_isBefore 120 = .ok (.ifCond .ne 16, 3) := by decide +kernel
theorem dM_isBefore_123 : decode cM_isBefore 123 = .ok (.aload_n 0, 1) := by decide +kernel
theorem dM_isBefore_124 : decode cM_isBefore 124 = .ok (.getfield 51, 3) := by decide +kernel
theorem dM_isBefore_127 : decode cM_isBefore 127 = .ok (.iload_n 2, 1) := by decide +kernel
theorem dM_isBefore_128 : decode cM_isBefore 128 = .ok (.baload, 1) := by decide +kernel
theorem dM_isBefore_129 : decode cM_isBefore 129 = .ok (.ifCond .eq 7, 3) := by decide +kernel
theorem dM_isBefore_132 : decode cM_isBefore 132 = .ok (.iconst 1, 1) := by decide +kernel
theorem dM_isBefore_133 : decode cM_isBefore 133 = .ok (.goto 4, 3) := by decide +kernel
theorem dM_isBefore_136 : decode cM_isBefore 136 = .ok (.iconst 0, 1) := by decide +kernel
theorem dM_isBefore_137 : decode cM_isBefore 137 = .ok (.ireturn, 1) := by decide +kernel
theorem dM_swap_0 : decode cM_swap 0 = .ok (.aload_n 0, 1) := by decide +kernel
theorem dM_swap_1 : decode cM_swap 1 = .ok (.getfield 41, 3) := by decide +kernel
theorem dM_swap_4 : decode cM_swap 4 = .ok (.iload_n 1, 1) := by decide +kernel
theorem dM_swap_5 : decode cM_swap 5 = .ok (.laload, 1) := by decide +kernel
theorem dM_swap_6 : decode cM_swap 6 = .ok (.lstore_n 3, 1) := by decide +kernel
theorem dM_swap_7 : decode cM_swap 7 = .ok (.aload_n 0, 1) := by decide +kernel
theorem dM_swap_8 : decode cM_swap 8 = .ok (.getfield 41, 3) := by decide +kernel
theorem dM_swap_11 : decode cM_swap 11 = .ok (.iload_n 1, 1) := by decide +kernel
theorem dM_swap_12 : decode cM_swap 12 = .ok (.aload_n 0, 1) := by decide +kernel
theorem dM_swap_13 : decode cM_swap 13 = .ok (.getfield 41, 3) := by decide +kernel
theorem dM_swap_16 : decode cM_swap 16 = .ok (.iload_n 2, 1) := by decide +kernel
theorem dM_swap_17 : decode cM_swap 17 = .ok (.laload, 1) := by decide +kernel
theorem dM_swap_18 : decode cM_swap 18 = .ok (.lastore, 1) := by decide +kernel
theorem dM_swap_19 : decode cM_swap 19 = .ok (.aload_n 0, 1) := by decide +kernel
theorem dM_swap_20 : decode cM_swap 20 = .ok (.getfield 41, 3) := by decide +kernel
theorem dM_swap_23 : decode cM_swap 23 = .ok (.iload_n 2, 1) := by decide +kernel
theorem dM_swap_24 : decode cM_swap 24 = .ok (.lload_n 3, 1) := by decide +kernel
theorem dM_swap_25 : decode cM_swap 25 = .ok (.lastore, 1) := by decide +kernel
theorem dM_swap_26 : decode cM_swap 26 = .ok (.aload_n 0, 1) := by decide +kernel
theorem dM_swap_27 : decode cM_swap 27 = .ok (.getfield 45, 3) := by decide +kernel
theorem dM_swap_30 : decode cM_swap 30 = .ok (.iload_n 1, 1) := by decide +kernel
theorem dM_swap_31 : decode cM_swap 31 = .ok (.laload, 1) := by decide +kernel
theorem dM_swap_32 : decode cM_swap 32 = .ok (.lstore_n 3, 1) := by decide +kernel
theorem dM_swap_33 : decode cM_swap 33 = .ok (.aload_n 0, 1) := by decide +kernel
theorem dM_swap_34 : decode cM_swap 34 = .ok (.getfield 45, 3) := by decide +kernel
theorem dM_swap_37 : decode cM_swap 37 = .ok (.iload_n 1, 1) := by decide +kernel
theorem dM_swap_38 : decode cM_swap 38 = .ok (.aload_n 0, 1) := by decide +kernel
theorem dM_swap_39 : decode cM_swap 39 = .ok (.getfield 45, 3) := by decide +kernel
theorem dM_swap_42 : decode cM_swap 42 = .ok (.iload_n 2, 1) := by decide +kernel
theorem dM_swap_43 : decode cM_swap 43 = .ok (.laload, 1) := by decide +kernel
theorem dM_swap_44 : decode cM_swap 44 = .ok (.lastore, 1) := by decide +kernel
theorem dM_swap_45 : decode cM_swap 45 = .ok (.aload_n 0, 1) := by decide +kernel
theorem dM_swap_46 : decode cM_swap 46 = .ok (.getfield 45, 3) := by decide +kernel
theorem dM_swap_49 : decode cM_swap 49 = .ok (.iload_n 2, 1) := by decide +kernel
theorem dM_swap_50 : decode cM_swap 50 = .ok (.lload_n 3, 1) := by decide +kernel
theorem dM_swap_51 : decode cM_swap 51 = .ok (.lastore, 1) := by decide +kernel
theorem dM_swap_52 : decode cM_swap 52 = .ok (.aload_n 0, 1) := by decide +kernel
theorem dM_swap_53 : decode cM_swap 53 = .ok (.getfield 48, 3) := by decide +kernel
theorem dM_swap_56 : decode cM_swap 56 = .ok (.iload_n 1, 1) := by decide +kernel
theorem dM_swap_57 : decode cM_swap 57 = .ok (.laload, 1) := by decide +kernel
theorem dM_swap_58 : decode cM_swap 58 = .ok (.lstore_n 3, 1) := by decide +kernel
theorem dM_swap_59 : decode cM_swap 59 = .ok (.aload_n 0, 1) := by decide +kernel
theorem dM_swap_60 : decode cM_swap 60 = .ok (.getfield 48, 3) := by decide +kernel
theorem dM_swap_63 : decode cM_swap 63 = .ok (.iload_n 1, 1) := by decide +kernel
theorem dM_swap_64 : decode cM_swap 64 = .ok (.aload_n 0, 1) := by decide +kernel
theorem dM_swap_65 : decode cM_swap 65 = .ok (.getfield 48, 3) := by decide +kernel
theorem dM_swap_68 : decode cM_swap 68 = .ok (.iload_n 2, 1) := by decide +kernel
theorem dM_swap_69 : decode cM_swap 69 = .ok (.laload, 1) := by decide +kernel
theorem dM_swap_70 : decode cM_swap 70 = .ok (.lastore, 1) := by decide +kernel
theorem dM_swap_71 : decode cM_swap 71 = .ok (.aload_n 0, 1) := by decide +kernel
theorem dM_swap_72 : decode cM_swap 72 = .ok (.getfield 48, 3) := by decide +kernel
theorem dM_swap_75 : decode cM_swap 75 = .ok (.iload_n 2, 1) := by decide +kernel
theorem dM_swap_76 : decode cM_swap 76 = .ok (.lload_n 3, 1) := by decide +kernel
theorem dM_swap_77 : decode cM_swap 77 = .ok (.lastore, 1) := by decide +kernel
theorem dM_swap_78 : decode cM_swap 78 = .ok (.aload_n 0, 1) := by decide +kernel
theorem dM_swap_79 : decode cM_swap 79 = .ok (.getfield 51, 3) := by decide +kernel
theorem dM_swap_82 : decode cM_swap 82 = .ok (.iload_n 1, 1) := by decide +kernel
theorem dM_swap_83 : decode cM_swap 83 = .ok (.baload, 1) := by decide +kernel
theorem dM_swap_84 : decode cM_swap 84 = .ok (.istore 5, 2) := by decide +kernel
theorem dM_swap_86 : decode cM_swap 86 = .ok (.aload_n 0, 1) := by decide +kernel
theorem dM_swap_87 : decode cM_swap 87 = .ok (.getfield 51, 3) := by decide +kernel
theorem dM_swap_90 : decode cM_swap 90 = .ok (.iload_n 1, 1) := by decide +kernel
theorem dM_swap_91 : decode cM_swap 91 = .ok (.aload_n 0, 1) := by decide +kernel
theorem dM_swap_92 : decode cM_swap 92 = .ok (.getfield 51, 3) := by decide +kernel
theorem dM_swap_95 : decode cM_swap 95 = .ok (.iload_n 2, 1) := by decide +kernel
theorem dM_swap_96 : decode cM_swap 96 = .ok (.baload, 1) := by decide +kernel
theorem dM_swap_97 : decode cM_swap 97 = .ok (.bastore, 1) := by decide +kernel
theorem dM_swap_98 : decode cM_swap 98 = .ok (.aload_n 0, 1) := by decide +kernel
theorem dM_swap_99 : decode cM_swap 99 = .ok (.getfield 51, 3) := by decide +kernel
theorem dM_swap_102 : decode cM_swap 102 = .ok (.iload_n 2, 1) := by decide +kernel
theorem dM_swap_103 : decode cM_swap 103 = .ok (.iload 5, 2) := by decide +kernel
theorem dM_swap_105 : decode cM_swap 105 = .ok (.bastore, 1) := by decide +kernel
theorem dM_swap_106 : decode cM_swap 106 = .ok (.return_, 1) := by decide +kernel
theorem dM_remove_0 : decode cM_remove 0 = .ok (.iload_n 1, 1) := by decide +kernel
theorem dM_remove_1 : decode cM_remove 1 = .ok (.istore_n 2, 1) := by decide +kernel
theorem dM_remove_2 : decode cM_remove 2 = .ok (.iload_n 2, 1) := by decide +kernel
theorem dM_remove_3 : decode cM_remove 3 = .ok (.iconst 1, 1) := by decide +kernel
theorem dM_remove_4 : decode cM_remove 4 = .ok (.iadd, 1) := by decide +kernel
theorem dM_remove_5 : decode cM_remove 5 = .ok (.aload_n 0, 1) := by decide +kernel
theorem dM_remove_6 : decode cM_remove 6 = .ok (.getfield 70, 3) := by decide +kernel
theorem dM_remove_9 : decode cM_remove 9 = .ok (.if_icmp .ge 17, 3) := by decide +kernel
theorem dM_remove_12 : decode cM_remove 12 = .ok (.aload_n 0, 1) := by decide +kernel
theorem dM_remove_13 : decode cM_remove 13 = .ok (.iload_n 2, 1) := by decide +kernel
theorem dM_remove_14 : decode cM_remove 14 = .ok (.iload_n 2, 1) := by decide +kernel
theorem dM_remove_15 : decode cM_remove 15 = .ok (.iconst 1, 1) := by decide +kernel
theorem dM_remove_16 : decode cM_remove 16 = .ok (.iadd, 1) := by decide +kernel
theorem dM_remove_17 : decode cM_remove 17 = .ok (.invokevirtual 157, 3) := by decide +kernel
theorem dM_remove_20 : decode cM_remove 20 = .ok (.iinc 2 1, 3) := by decide +kernel
theorem dM_remove_23 : decode cM_remove 23 = .ok (.goto (-21), 3) := by decide +kernel
theorem dM_remove_26 : decode cM_remove 26 = .ok (.aload_n 0, 1) := by decide +kernel
theorem dM_remove_27 : decode cM_remove 27 = .ok (.dup, 1) := by decide +kernel
theorem dM_remove_28 : decode cM_remove 28 = .ok (.getfield 70, 3) := by decide +kernel
theorem dM_remove_31 : decode cM_remove 31 = .ok (.iconst 1, 1) := by decide +kernel
theorem dM_remove_32 : decode cM_remove 32 = .ok (.isub, 1) := by decide +kernel
theorem dM_remove_33 : decode cM_remove 33 = .ok (.putfield 70, 3) := by decide +kernel
theorem dM_remove_36 : decode cM_remove 36 = .ok (.return_, 1) := by decide +kernel
theorem dM_normal_0 : decode cM_normal 0 = .ok (.aload_n 0, 1) := by decide +kernel
theorem dM_normal_1 : decode cM_normal 1 = .ok (.getfield 146, 3) := by decide +kernel
theorem dM_normal_4 : decode cM_normal 4 = .ok (.ifCond .eq 5, 3) := by decide +kernel
theorem dM_normal_7 : decode cM_normal 7 = .ok (.iconst 0, 1) := by decide +kernel
theorem dM_normal_8 : decode cM_normal 8 = .ok (.ireturn, 1) := by decide +kernel
theorem dM_normal_9 : decode cM_normal 9 = .ok (.iconst 0, 1) := by decide +kernel
theorem dM_normal_10 : decode cM_normal 10 = .ok (.istore_n 1, 1) := by decide +kernel
theorem dM_normal_11 : decode cM_normal 11 = .ok (.iload_n 1, 1) := by decide +kernel
theorem dM_normal_12 : decode cM_normal 12 = .ok (.aload_n 0, 1) := by decide +kernel
theorem dM_normal_13 : decode cM_normal 13 = .ok (.getfield 70, 3) := by decide +kernel
theorem dM_normal_16 : decode cM_normal 16 = .ok (.if_icmp .ge 64, 3) := by decide +kernel
theorem dM_normal_19 : decode cM_normal 19 = .ok (.aload_n 0, 1) := by decide +kernel
theorem dM_normal_20 : decode cM_normal 20 = .ok (.getfield 41, 3) := by decide +kernel
theorem dM_normal_23 : decode cM_normal 23 = .ok (.iload_n 1, 1) := by decide +kernel
theorem dM_normal_24 : decode cM_normal 24 = .ok (.laload, 1) := by decide +kernel
theorem dM_normal_25 : decode cM_normal 25 = .ok (.aload_n 0, 1) := by decide +kernel
theorem dM_normal_26 : decode cM_normal 26 = .ok (.getfield 45, 3) := by decide +kernel
theorem dM_normal_29 : decode cM_normal 29 = .ok (.iload_n 1, 1) := by decide +kernel
theorem dM_normal_30 : decode cM_normal 30 = .ok (.laload, 1) := by decide +kernel
theorem dM_normal_31 : decode cM_normal 31 = .ok (.invokestatic 161, 3) := by decide +kernel
theorem dM_normal_34 : decode cM_normal 34 = .ok (.aload_n 0, 1) := by decide +kernel
theorem dM_normal_35 : decode cM_normal 35 = .ok (.getfield 48, 3) := by decide +kernel
theorem dM_normal_38 : decode cM_normal 38 = .ok (.iload_n 1, 1) := by decide +kernel
theorem dM_normal_39 : decode cM_normal 39 = .ok (.laload, 1) := by decide +kernel
theorem dM_normal_40 : decode cM_normal 40 = .ok (.invokestatic 161, 3) := by decide +kernel
theorem dM_normal_43 : decode cM_normal 43 = .ok (.lstore_n 2, 1) := by decide +kernel
theorem dM_normal_44 : decode cM_normal 44 = .ok (.aload_n 0, 1) := by decide +kernel
theorem dM_normal_45 : decode cM_normal 45 = .ok (.getfield 41, 3) := by decide +kernel
theorem dM_normal_48 : decode cM_normal 48 = .ok (.iload_n 1, 1) := by decide +kernel
theorem dM_normal_49 : decode cM_normal 49 = .ok (.dup2, 1) := by decide +kernel
theorem dM_normal_50 : decode cM_normal 50 = .ok (.laload, 1) := by decide +kernel
theorem dM_normal_51 : decode cM_normal 51 = .ok (.lload_n 2, 1) := by decide +kernel
theorem dM_normal_52 : decode cM_normal 52 = .ok (.ldiv, 1) := by decide +kernel
theorem dM_normal_53 : decode cM_normal 53 = .ok (.lastore, 1) := by decide +kernel
theorem dM_normal_54 : decode cM_normal 54 = .ok (.aload_n 0, 1) := by decide +kernel
theorem dM_normal_55 : decode cM_normal 55 = .ok (.getfield 45, 3) := by decide +kernel
theorem dM_normal_58 : decode cM_normal 58 = .ok (.iload_n 1, 1) := by decide +kernel
theorem dM_normal_59 : decode cM_normal 59 = .ok (.dup2, 1) := by decide +kernel
theorem dM_normal_60 : decode cM_normal 60 = .ok (.laload, 1) := by decide +kernel
theorem dM_normal_61 : decode cM_normal 61 = .ok (.lload_n 2, 1) := by decide +kernel
theorem dM_normal_62 : decode cM_normal 62 = .ok (.ldiv, 1) := by decide +kernel
theorem dM_normal_63 : decode cM_normal 63 = .ok (.lastore, 1) := by decide +kernel
theorem dM_normal_64 : decode cM_normal 64 = .ok (.aload_n 0, 1) := by decide +kernel
theorem dM_normal_65 : decode cM_normal 65 = .ok (.getfield 48, 3) := by decide +kernel
theorem dM_normal_68 : decode cM_normal 68 = .ok (.iload_n 1, 1) := by decide +kernel
theorem dM_normal_69 : decode cM_normal 69 = .ok (.dup2, 1) := by decide +kernel
theorem dM_normal_70 : decode cM_normal 70 = .ok (.laload, 1) := by decide +kernel
theorem dM_normal_71 : decode cM_normal 71 = .ok (.lload_n 2, 1) := by decide +kernel
theorem dM_normal_72 : decode cM_normal 72 = .ok (.ldiv, 1) := by decide +kernel
theorem dM_normal_73 : decode cM_normal 73 = .ok (.lastore, 1) := by decide +kernel
theorem dM_normal_74 : decode cM_normal 74 = .ok (.iinc 1 1, 3) := by decide +kernel
theorem dM_normal_77 : decode cM_normal 77 = .ok (.goto (-66), 3) := by decide +kernel
theorem dM_normal_80 : decode cM_normal 80 = .ok (.iconst 1, 1) := by decide +kernel
theorem dM_normal_81 : decode cM_normal 81 = .ok (.istore_n 1, 1) := by decide +kernel
theorem dM_normal_82 : decode cM_normal 82 = .ok (.iload_n 1, 1) := by decide +kernel
theorem dM_normal_83 : decode cM_normal 83 = .ok (.aload_n 0, 1) := by decide +kernel
theorem dM_normal_84 : decode cM_normal 84 = .ok (.getfield 70, 3) := by decide +kernel
theorem dM_normal_87 : decode cM_normal 87 = .ok (.if_icmp .ge 40, 3) := by decide +kernel
theorem dM_normal_90 : decode cM_normal 90 = .ok (.iload_n 1, 1) := by decide +kernel
theorem dM_normal_91 : decode cM_normal 91 = .ok (.istore_n 2, 1) := by decide +kernel
theorem dM_normal_92 : decode cM_normal 92 = .ok (.iload_n 2, 1) := by decide +kernel
theorem dM_normal_93 : decode cM_normal 93 = .ok (.ifCond .le 28, 3) := by decide +kernel
theorem dM_normal_96 : decode cM_normal 96 = .ok (.aload_n 0, 1) := by decide +kernel
theorem dM_normal_97 : decode cM_normal 97 = .ok (.iload_n 2, 1) := by decide +kernel
theorem dM_normal_98 : decode cM_normal 98 = .ok (.iload_n 2, 1) := by decide +kernel
theorem dM_normal_99 : decode cM_normal 99 = .ok (.iconst 1, 1) := by decide +kernel
theorem dM_normal_100 : decode cM_normal 100 = .ok (.isub, 1) := by decide +kernel
theorem dM_normal_101 : decode cM_normal 101 = .ok (.invokevirtual 165, 3) := by decide +kernel
theorem dM_normal_104 : decode cM_normal 104 = .ok (.ifCond .eq 17, 3) := by decide +kernel
theorem dM_normal_107 : decode cM_normal 107 = .ok (.aload_n 0, 1) := by decide +kernel
theorem dM_normal_108 : decode cM_normal 108 = .ok (.iload_n 2, 1) := by decide +kernel
theorem dM_normal_109 : decode cM_normal 109 = .ok (.iload_n 2, 1) := by decide +kernel
theorem dM_normal_110 : decode cM_normal 110 = .ok (.iconst 1, 1) := by decide +kernel
theorem dM_normal_111 : decode cM_normal 111 = .ok (.isub, 1) := by decide +kernel
theorem dM_normal_112 : decode cM_normal 112 = .ok (.invokevirtual 157, 3) := by decide +kernel
theorem dM_normal_115 : decode cM_normal 115 = .ok (.iinc 2 (-1), 3) := by decide +kernel
theorem dM_normal_118 : decode cM_normal 118 = .ok (.goto (-26), 3) := by decide +kernel
theorem dM_normal_121 : decode cM_normal 121 = .ok (.iinc 1 1, 3) := by decide +kernel
theorem dM_normal_124 : decode cM_normal 124 = .ok (.goto (-42), 3) := by decide +kernel
theorem dM_normal_127 : decode cM_normal 127 = .ok (.iconst 0, 1) := by decide +kernel
theorem dM_normal_128 : decode cM_normal 128 = .ok (.istore_n 1, 1) := by decide +kernel
theorem dM_normal_129 : decode cM_normal 129 = .ok (.iload_n 1, 1) := by decide +kernel
theorem dM_normal_130 : decode cM_normal 130 = .ok (.iconst 1, 1) := by decide +kernel
theorem dM_normal_131 : decode cM_normal 131 = .ok (.iadd, 1) := by decide +kernel
theorem dM_normal_132 : decode cM_normal 132 = .ok (.aload_n 0, 1) := by decide +kernel
theorem dM_normal_133 : decode cM_normal 133 = .ok (.getfield 70, 3) := by decide +kernel
theorem dM_normal_136 : decode cM_normal 136 = .ok (.if_icmp .ge 87, 3) := by decide +kernel
theorem dM_normal_139 : decode cM_normal 139 = .ok (.aload_n 0, 1) := by decide +kernel
theorem dM_normal_140 : decode cM_normal 140 = .ok (.getfield 41, 3) := by decide +kernel
theorem dM_normal_143 : decode cM_normal 143 = .ok (.iload_n 1, 1) := by decide +kernel
theorem dM_normal_144 : decode cM_normal 144 = .ok (.laload, 1) := by decide +kernel
theorem dM_normal_145 : decode cM_normal 145 = .ok (.aload_n 0, 1) := by decide +kernel
theorem dM_normal_146 : decode cM_normal 146 = .ok (.getfield 41, 3) := by decide +kernel
theorem dM_normal_149 : decode cM_normal 149 = .ok (.iload_n 1, 1) := by decide +kernel
theorem dM_normal_150 : decode cM_normal 150 = .ok (.iconst 1, 1) := by decide +kernel
theorem dM_normal_151 : decode cM_normal 151 = .ok (.iadd, 1) := by decide +kernel
theorem dM_normal_152 : decode cM_normal 152 = .ok (.laload, 1) := by decide +kernel
theorem dM_normal_153 : decode cM_normal 153 = .ok (.lcmp, 1) := by decide +kernel
theorem dM_normal_154 : decode cM_normal 154 = .ok (.ifCond .ne 25, 3) := by decide +kernel
theorem dM_normal_157 : decode cM_normal 157 = .ok (.aload_n 0, 1) := by decide +kernel
theorem dM_normal_158 : decode cM_normal 158 = .ok (.getfield 45, 3) := by decide +kernel
theorem dM_normal_161 : decode cM_normal 161 = .ok (.iload_n 1, 1) := by decide +kernel
theorem dM_normal_162 : decode cM_normal 162 = .ok (.laload, 1) := by decide +kernel
theorem dM_normal_163 : decode cM_normal 163 = .ok (.aload_n 0, 1) := by decide +kernel
theorem dM_normal_164 : decode cM_normal 164 = .ok (.getfield 45, 3) := by decide +kernel
theorem dM_normal_167 : decode cM_normal 167 = .ok (.iload_n 1, 1) := by decide +kernel
theorem dM_normal_168 : decode cM_normal 168 = .ok (.iconst 1, 1) := by decide +kernel
theorem dM_normal_169 : decode cM_normal 169 = .ok (.iadd, 1) := by decide +kernel
theorem dM_normal_170 : decode cM_normal 170 = .ok (.laload, 1) := by decide +kernel
theorem dM_normal_171 : decode cM_normal 171 = .ok (.lcmp, 1) := by decide +kernel
theorem dM_normal_172 : decode cM_normal 172 = .ok (.ifCond .ne 7, 3) := by decide +kernel
theorem dM_normal_175 : decode cM_normal 175 = .ok (.iconst 1, 1) := by decide +kernel
theorem dM_normal_176 : decode cM_normal 176 = .ok (.goto 4, 3) := by decide +kernel
theorem dM_normal_179 : decode cM_normal 179 = .ok (.iconst 0, 1) := by decide +kernel
theorem dM_normal_180 : decode cM_normal 180 = .ok (.istore_n 2, 1) := by decide +kernel
theorem dM_normal_181 : decode cM_normal 181 = .ok (.iload_n 2, 1) := by decide +kernel
theorem dM_normal_182 : decode cM_normal 182 = .ok (.ifCond .ne 9, 3) := by decide +kernel
theorem dM_normal_185 : decode cM_normal 185 = .ok (.iinc 1 1, 3) := by decide +kernel
theorem dM_normal_188 : decode cM_normal 188 = .ok (.goto 32, 3) := by decide +kernel
theorem dM_normal_191 : decode cM_normal 191 = .ok (.aload_n 0, 1) := by decide +kernel
theorem dM_normal_192 : decode cM_normal 192 = .ok (.aload_n 0, 1) := by decide +kernel
theorem dM_normal_193 : decode cM_normal 193 = .ok (.getfield 48, 3) := by decide +kernel
theorem dM_normal_196 : decode cM_normal 196 = .ok (.iload_n 1, 1) := by decide +kernel
theorem dM_normal_197 : decode cM_normal 197 = .ok (.laload, 1) := by decide +kernel
theorem dM_normal_198 : decode cM_normal 198 = .ok (.aload_n 0, 1) := by decide +kernel
theorem dM_normal_199 : decode cM_normal 199 = .ok (.getfield 48, 3) := by decide +kernel
theorem dM_normal_202 : decode cM_normal 202 = .ok (.iload_n 1, 1) := by decide +kernel
theorem dM_normal_203 : decode cM_normal 203 = .ok (.iconst 1, 1) := by decide +kernel
theorem dM_normal_204 : decode cM_normal 204 = .ok (.iadd, 1) := by decide +kernel
theorem dM_normal_205 : decode cM_normal 205 = .ok (.laload, 1) := by decide +kernel
theorem dM_normal_206 : decode cM_normal 206 = .ok (.lcmp, 1) := by decide +kernel
theorem dM_normal_207 : decode cM_normal 207 = .ok (.ifCond .ne 7, 3) := by decide +kernel
theorem dM_normal_210 : decode cM_normal 210 = .ok (.iload_n 1, 1) := by decide +kernel
theorem dM_normal_211 : decode cM_normal 211 = .ok (.goto 6, 3) := by decide +kernel
theorem dM_normal_214 : decode cM_normal 214 = .ok (.iload_n 1, 1) := by decide +kernel
theorem dM_normal_215 : decode cM_normal 215 = .ok (.iconst 1, 1) := by decide +kernel
theorem dM_normal_216 : decode cM_normal 216 = .ok (.iadd, 1) := by decide +kernel
theorem dM_normal_217 : decode cM_normal 217 = .ok (.invokevirtual 168, 3) := by decide +kernel
theorem dM_normal_220 : decode cM_normal 220 = .ok (.goto (-91), 3) := by decide +kernel
theorem dM_normal_223 : decode cM_normal 223 = .ok (.aload_n 0, 1) := by decide +kernel
theorem dM_normal_224 : decode cM_normal 224 = .ok (.invokevirtual 172, 3) := by decide +kernel
theorem dM_normal_227 : decode cM_normal 227 = .ok (.aload_n 0, 1) := by decide +kernel
theorem dM_normal_228 : decode cM_normal 228 = .ok (.invokevirtual 175, 3) := by decide +kernel
theorem dM_normal_231 : decode cM_normal 231 = .ok (.ifCond .ne 5, 3) := by decide +kernel
theorem dM_normal_234 : decode cM_normal 234 = .ok (.iconst 0, 1) := by decide +kernel
theorem dM_normal_235 : decode cM_normal 235 = .ok (.ireturn, 1) := by decide +kernel
theorem dM_normal_236 : decode cM_normal 236 = .ok (.aload_n 0, 1) := by decide +kernel
theorem dM_normal_237 : decode cM_normal 237 = .ok (.invokevirtual 178, 3) := by decide +kernel
theorem dM_normal_240 : decode cM_normal 240 = .ok (.iconst 1, 1) := by decide +kernel
theorem dM_normal_241 : decode cM_normal 241 = .ok (.ireturn, 1) := by decide +kernel
theorem dM_thin_0 : decode cM_thin 0 = .ok (.iconst 0, 1) := by decide +kernel
theorem dM_thin_1 : decode cM_thin 1 = .ok (.istore_n 1, 1) := by decide +kernel
theorem dM_thin_2 : decode cM_thin 2 = .ok (.iload_n 1, 1) := by decide +kernel
theorem dM_thin_3 : decode cM_thin 3 = .ok (.aload_n 0, 1) := by decide +kernel
theorem dM_thin_4 : decode cM_thin 4 = .ok (.getfield 70, 3) := by decide +kernel
theorem dM_thin_7 : decode cM_thin 7 = .ok (.if_icmp .ge 87, 3) := by decide +kernel
theorem dM_thin_10 : decode cM_thin 10 = .ok (.aload_n 0, 1) := by decide +kernel
theorem dM_thin_11 : decode cM_thin 11 = .ok (.invokevirtual 172, 3) := by decide +kernel
theorem dM_thin_14 : decode cM_thin 14 = .ok (.aload_n 0, 1) := by decide +kernel
theorem dM_thin_15 : decode cM_thin 15 = .ok (.getfield 54, 3) := by decide +kernel
theorem dM_thin_18 : decode cM_thin 18 = .ok (.iload_n 1, 1) := by decide +kernel
theorem dM_thin_19 : decode cM_thin 19 = .ok (.aload_n 0, 1) := by decide +kernel
theorem dM_thin_20 : decode cM_thin 20 = .ok (.getfield 41, 3) := by decide +kernel
theorem dM_thin_23 : decode cM_thin 23 = .ok (.iload_n 1, 1) := by decide +kernel
theorem dM_thin_24 : decode cM_thin 24 = .ok (.laload, 1) := by decide +kernel
theorem dM_thin_25 : decode cM_thin 25 = .ok (.lneg, 1) := by decide +kernel
theorem dM_thin_26 : decode cM_thin 26 = .ok (.lastore, 1) := by decide +kernel
theorem dM_thin_27 : decode cM_thin 27 = .ok (.aload_n 0, 1) := by decide +kernel
theorem dM_thin_28 : decode cM_thin 28 = .ok (.getfield 57, 3) := by decide +kernel
theorem dM_thin_31 : decode cM_thin 31 = .ok (.iload_n 1, 1) := by decide +kernel
theorem dM_thin_32 : decode cM_thin 32 = .ok (.aload_n 0, 1) := by decide +kernel
theorem dM_thin_33 : decode cM_thin 33 = .ok (.getfield 45, 3) := by decide +kernel
theorem dM_thin_36 : decode cM_thin 36 = .ok (.iload_n 1, 1) := by decide +kernel
theorem dM_thin_37 : decode cM_thin 37 = .ok (.laload, 1) := by decide +kernel
theorem dM_thin_38 : decode cM_thin 38 = .ok (.lneg, 1) := by decide +kernel
theorem dM_thin_39 : decode cM_thin 39 = .ok (.lastore, 1) := by decide +kernel
theorem dM_thin_40 : decode cM_thin 40 = .ok (.aload_n 0, 1) := by decide +kernel
theorem dM_thin_41 : decode cM_thin 41 = .ok (.getfield 60, 3) := by decide +kernel
theorem dM_thin_44 : decode cM_thin 44 = .ok (.iload_n 1, 1) := by decide +kernel
theorem dM_thin_45 : decode cM_thin 45 = .ok (.aload_n 0, 1) := by decide +kernel
theorem dM_thin_46 : decode cM_thin 46 = .ok (.getfield 48, 3) := by decide +kernel
theorem dM_thin_49 : decode cM_thin 49 = .ok (.iload_n 1, 1) := by decide +kernel
theorem dM_thin_50 : decode cM_thin 50 = .ok (.laload, 1) := by decide +kernel
theorem dM_thin_51 : decode cM_thin 51 = .ok (.lneg, 1) := by decide +kernel
theorem dM_thin_52 : decode cM_thin 52 = .ok (.lastore, 1) := by decide +kernel
theorem dM_thin_53 : decode cM_thin 53 = .ok (.aload_n 0, 1) := by decide +kernel
theorem dM_thin_54 : decode cM_thin 54 = .ok (.getfield 63, 3) := by decide +kernel
theorem dM_thin_57 : decode cM_thin 57 = .ok (.iload_n 1, 1) := by decide +kernel
theorem dM_thin_58 : decode cM_thin 58 = .ok (.aload_n 0, 1) := by decide +kernel
theorem dM_thin_59 : decode cM_thin 59 = .ok (.getfield 51, 3) := by decide +kernel
theorem dM_thin_62 : decode cM_thin 62 = .ok (.iload_n 1, 1) := by decide +kernel
theorem dM_thin_63 : decode cM_thin 63 = .ok (.baload, 1) := by decide +kernel
theorem dM_thin_64 : decode cM_thin 64 = .ok (.ifCond .ne 7, 3) := by decide +kernel
theorem dM_thin_67 : decode cM_thin 67 = .ok (.iconst 1, 1) := by decide +kernel
theorem dM_thin_68 : decode cM_thin 68 = .ok (.goto 4, 3) := by decide +kernel
theorem dM_thin_71 : decode cM_thin 71 = .ok (.iconst 0, 1) := by decide +kernel
theorem dM_thin_72 : decode cM_thin 72 = .ok (.bastore, 1) := by decide +kernel
theorem dM_thin_73 : decode cM_thin 73 = .ok (.aload_n 0, 1) := by decide +kernel
theorem dM_thin_74 : decode cM_thin 74 = .ok (.invokevirtual 175, 3) := by decide +kernel
theorem dM_thin_77 : decode cM_thin 77 = .ok (.ifCond .eq 9, 3) := by decide +kernel
theorem dM_thin_80 : decode cM_thin 80 = .ok (.iinc 1 1, 3) := by decide +kernel
theorem dM_thin_83 : decode cM_thin 83 = .ok (.goto (-81), 3) := by decide +kernel
theorem dM_thin_86 : decode cM_thin 86 = .ok (.aload_n 0, 1) := by decide +kernel
theorem dM_thin_87 : decode cM_thin 87 = .ok (.iload_n 1, 1) := by decide +kernel
theorem dM_thin_88 : decode cM_thin 88 = .ok (.invokevirtual 168, 3) := by decide +kernel
theorem dM_thin_91 : decode cM_thin 91 = .ok (.goto (-89), 3) := by decide +kernel
theorem dM_thin_94 : decode cM_thin 94 = .ok (.return_, 1) := by decide +kernel
theorem dM_isRow_0 : decode cM_isRow 0 = .ok (.aload_n 0, 1) := by decide +kernel
theorem dM_isRow_1 : decode cM_isRow 1 = .ok (.getfield 13, 3) := by decide +kernel
theorem dM_isRow_4 : decode cM_isRow 4 = .ok (.bipush 12, 2) := by decide +kernel
theorem dM_isRow_6 : decode cM_isRow 6 = .ok (.iload_n 1, 1) := by decide +kernel
theorem dM_isRow_7 : decode cM_isRow 7 = .ok (.imul, 1) := by decide +kernel
theorem dM_isRow_8 : decode cM_isRow 8 = .ok (.iload_n 2, 1) := by decide +kernel
theorem dM_isRow_9 : decode cM_isRow 9 = .ok (.iadd, 1) := by decide +kernel
theorem dM_isRow_10 : decode cM_isRow 10 = .ok (.iaload, 1) := by decide +kernel
theorem dM_isRow_11 : decode cM_isRow 11 = .ok (.aload_n 0, 1) := by decide +kernel
theorem dM_isRow_12 : decode cM_isRow 12 = .ok (.getfield 70, 3) := by decide +kernel
theorem dM_isRow_15 : decode cM_isRow 15 = .ok (.if_icmp .ne 7, 3) := by decide +kernel
theorem dM_isRow_18 : decode cM_isRow 18 = .ok (.iconst 1, 1) := by decide +kernel
theorem dM_isRow_19 : decode cM_isRow 19 = .ok (.goto 4, 3) := by decide +kernel
theorem dM_isRow_22 : decode cM_isRow 22 = .ok (.iconst 0, 1) := by decide +kernel
theorem dM_isRow_23 : decode cM_isRow 23 = .ok (.istore_n 3, 1) := by decide +kernel
theorem dM_isRow_24 : decode cM_isRow 24 = .ok (.iconst 0, 1) := by decide +kernel
theorem dM_isRow_25 : decode cM_isRow 25 = .ok (.istore 4, 2) := by decide +kernel
theorem dM_isRow_27 : decode cM_isRow 27 = .ok (.iload 4, 2) := by decide +kernel
theorem dM_isRow_29 : decode cM_isRow 29 = .ok (.aload_n 0, 1) := by decide +kernel
theorem dM_isRow_30 : decode cM_isRow 30 = .ok (.getfield 70, 3) := by decide +kernel
theorem dM_isRow_33 : decode cM_isRow 33 = .ok (.if_icmp .ge 102, 3) := by decide +kernel
theorem dM_isRow_36 : decode cM_isRow 36 = .ok (.iload_n 3, 1) := by decide +kernel
theorem dM_isRow_37 : decode cM_isRow 37 = .ok (.ifCond .eq 98, 3) := by decide +kernel
theorem dM_isRow_40 : decode cM_isRow 40 = .ok (.iload_n 1, 1) := by decide +kernel
theorem dM_isRow_41 : decode cM_isRow 41 = .ok (.iload_n 2, 1) := by decide +kernel
theorem dM_isRow_42 : decode cM_isRow 42 = .ok (.iload 4, 2) := by decide +kernel
theorem dM_isRow_44 : decode cM_isRow 44 = .ok (.invokestatic 149, 3) := by decide +kernel
theorem dM_isRow_47 : decode cM_isRow 47 = .ok (.istore 5, 2) := by decide +kernel
theorem dM_isRow_49 : decode cM_isRow 49 = .ok (.aload_n 0, 1) := by decide +kernel
theorem dM_isRow_50 : decode cM_isRow 50 = .ok (.getfield 16, 3) := by decide +kernel
theorem dM_isRow_53 : decode cM_isRow 53 = .ok (.iload 5, 2) := by decide +kernel
theorem dM_isRow_55 : decode cM_isRow 55 = .ok (.iaload, 1) := by decide +kernel
theorem dM_isRow_56 : decode cM_isRow 56 = .ok (.i2l, 1) := by decide +kernel
theorem dM_isRow_57 : decode cM_isRow 57 = .ok (.aload_n 0, 1) := by decide +kernel
theorem dM_isRow_58 : decode cM_isRow 58 = .ok (.getfield 41, 3) := by decide +kernel
theorem dM_isRow_61 : decode cM_isRow 61 = .ok (.iload 4, 2) := by decide +kernel
theorem dM_isRow_63 : decode cM_isRow 63 = .ok (.laload, 1) := by decide +kernel
theorem dM_isRow_64 : decode cM_isRow 64 = .ok (.lcmp, 1) := by decide +kernel
theorem dM_isRow_65 : decode cM_isRow 65 = .ok (.ifCond .ne 62, 3) := by decide +kernel
theorem dM_isRow_68 : decode cM_isRow 68 = .ok (.aload_n 0, 1) := by decide +kernel
theorem dM_isRow_69 : decode cM_isRow 69 = .ok (.getfield 19, 3) := by decide +kernel
theorem dM_isRow_72 : decode cM_isRow 72 = .ok (.iload 5, 2) := by decide +kernel
theorem dM_isRow_74 : decode cM_isRow 74 = .ok (.iaload, 1) := by decide +kernel
theorem dM_isRow_75 : decode cM_isRow 75 = .ok (.i2l, 1) := by decide +kernel
theorem dM_isRow_76 : decode cM_isRow 76 = .ok (.aload_n 0, 1) := by decide +kernel
theorem dM_isRow_77 : decode cM_isRow 77 = .ok (.getfield 45, 3) := by decide +kernel
theorem dM_isRow_80 : decode cM_isRow 80 = .ok (.iload 4, 2) := by decide +kernel
theorem dM_isRow_82 : decode cM_isRow 82 = .ok (.laload, 1) := by decide +kernel
theorem dM_isRow_83 : decode cM_isRow 83 = .ok (.lcmp, 1) := by decide +kernel
theorem dM_isRow_84 : decode cM_isRow 84 = .ok (.ifCond .ne 43, 3) := by decide +kernel
theorem dM_isRow_87 : decode cM_isRow 87 = .ok (.aload_n 0, 1) := by decide +kernel
theorem dM_isRow_88 : decode cM_isRow 88 = .ok (.getfield 22, 3) := by decide +kernel
theorem dM_isRow_91 : decode cM_isRow 91 = .ok (.iload 5, 2) := by decide +kernel
theorem dM_isRow_93 : decode cM_isRow 93 = .ok (.iaload, 1) := by decide +kernel
theorem dM_isRow_94 : decode cM_isRow 94 = .ok (.i2l, 1) := by decide +kernel
theorem dM_isRow_95 : decode cM_isRow 95 = .ok (.aload_n 0, 1) := by decide +kernel
theorem dM_isRow_96 : decode cM_isRow 96 = .ok (.getfield 48, 3) := by decide +kernel
theorem dM_isRow_99 : decode cM_isRow 99 = .ok (.iload 4, 2) := by decide +kernel
theorem dM_isRow_101 : decode cM_isRow 101 = .ok (.laload, 1) := by decide +kernel
theorem dM_isRow_102 : decode cM_isRow 102 = .ok (.lcmp, 1) := by decide +kernel
theorem dM_isRow_103 : decode cM_isRow 103 = .ok (.ifCond .ne 24, 3) := by decide +kernel
theorem dM_isRow_106 : decode cM_isRow 106 = .ok (.aload_n 0, 1) := by decide +kernel
theorem dM_isRow_107 : decode cM_isRow 107 = .ok (.getfield 25, 3) := by decide +kernel
theorem dM_isRow_110 : decode cM_isRow 110 = .ok (.iload 5, 2) := by decide +kernel
theorem dM_isRow_112 : decode cM_isRow 112 = .ok (.baload, 1) := by decide +kernel
theorem dM_isRow_113 : decode cM_isRow 113 = .ok (.aload_n 0, 1) := by decide +kernel
theorem dM_isRow_114 : decode cM_isRow 114 = .ok (.getfield 51, 3) := by decide +kernel
theorem dM_isRow_117 : decode cM_isRow 117 = .ok (.iload 4, 2) := by decide +kernel
theorem dM_isRow_119 : decode cM_isRow 119 = .ok (.baload, 1) := by decide +kernel
theorem dM_isRow_120 : decode cM_isRow 120 = .ok (.if_icmp .ne 7, 3) := by decide +kernel
theorem dM_isRow_123 : decode cM_isRow 123 = .ok (.iconst 1, 1) := by decide +kernel
theorem dM_isRow_124 : decode cM_isRow 124 = .ok (.goto 4, 3) := by decide +kernel
theorem dM_isRow_127 : decode cM_isRow 127 = .ok (.iconst 0, 1) := by decide +kernel
theorem dM_isRow_128 : decode cM_isRow 128 = .ok (.istore_n 3, 1) := by decide +kernel
theorem dM_isRow_129 : decode cM_isRow 129 = .ok (.iinc 4 1, 3) := by decide +kernel
theorem dM_isRow_132 : decode cM_isRow 132 = .ok (.goto (-105), 3) := by decide +kernel
theorem dM_isRow_135 : decode cM_isRow 135 = .ok (.iload_n 3, 1) := by decide +kernel
theorem dM_isRow_136 : decode cM_isRow 136 = .ok (.ireturn, 1) := by decide +kernel
theorem dM_put_0 : decode cM_put 0 = .ok (.aload_n 0, 1) := by decide +kernel
theorem dM_put_1 : decode cM_put 1 = .ok (.getfield 181, 3) := by decide +kernel
theorem dM_put_4 : decode cM_put 4 = .ok (.ifCond .ne 10, 3) := by decide +kernel
theorem dM_put_7 : decode cM_put 7 = .ok (.aload_n 0, 1) := by decide +kernel
theorem dM_put_8 : decode cM_put 8 = .ok (.invokevirtual 184, 3) := by decide +kernel
theorem dM_put_11 : decode cM_put 11 = .ok (.ifCond .ne 4, 3) := by decide +kernel
theorem dM_put_14 : decode cM_put 14 = .ok (.return_, 1) := by decide +kernel
theorem dM_put_15 : decode cM_put 15 = .ok (.iconst 0, 1) := by decide +kernel
theorem dM_put_16 : decode cM_put 16 = .ok (.istore_n 2, 1) := by decide +kernel
theorem dM_put_17 : decode cM_put 17 = .ok (.iload_n 2, 1) := by decide +kernel
theorem dM_put_18 : decode cM_put 18 = .ok (.aload_n 0, 1) := by decide +kernel
theorem dM_put_19 : decode cM_put 19 = .ok (.getfield 70, 3) := by decide +kernel
theorem dM_put_22 : decode cM_put 22 = .ok (.if_icmp .ge 50, 3) := by decide +kernel
theorem dM_put_25 : decode cM_put 25 = .ok (.aload_n 0, 1) := by decide +kernel
theorem dM_put_26 : decode cM_put 26 = .ok (.getfield 41, 3) := by decide +kernel
theorem dM_put_29 : decode cM_put 29 = .ok (.iload_n 2, 1) := by decide +kernel
theorem dM_put_30 : decode cM_put 30 = .ok (.laload, 1) := by decide +kernel
theorem dM_put_31 : decode cM_put 31 = .ok (.invokestatic 187, 3) := by decide +kernel
theorem dM_put_34 : decode cM_put 34 = .ok (.ifCond .ne 27, 3) := by decide +kernel
theorem dM_put_37 : decode cM_put 37 = .ok (.aload_n 0, 1) := by decide +kernel
theorem dM_put_38 : decode cM_put 38 = .ok (.getfield 45, 3) := by decide +kernel
theorem dM_put_41 : decode cM_put 41 = .ok (.iload_n 2, 1) := by decide +kernel
theorem dM_put_42 : decode cM_put 42 = .ok (.laload, 1) := by decide +kernel
theorem dM_put_43 : decode cM_put 43 = .ok (.invokestatic 187, 3) := by decide +kernel
theorem dM_put_46 : decode cM_put 46 = .ok (.ifCond .ne 15, 3) := by decide +kernel
theorem dM_put_49 : decode cM_put 49 = .ok (.aload_n 0, 1) := by decide +kernel
theorem dM_put_50 : decode cM_put 50 = .ok (.getfield 48, 3) := by decide +kernel
theorem dM_put_53 : decode cM_put 53 = .ok (.iload_n 2, 1) := by decide +kernel
theorem dM_put_54 : decode cM_put 54 = .ok (.laload, 1) := by decide +kernel
theorem dM_put_55 : decode cM_put 55 = .ok (.invokestatic 187, 3) := by decide +kernel
theorem dM_put_58 : decode cM_put 58 = .ok (.ifCond .eq 8, 3) := by decide +kernel
theorem dM_put_61 : decode cM_put 61 = .ok (.aload_n 0, 1) := by decide +kernel
theorem dM_put_62 : decode cM_put 62 = .ok (.iconst 1, 1) := by decide +kernel
theorem dM_put_63 : decode cM_put 63 = .ok (.putfield 181, 3) := by decide +kernel
theorem dM_put_66 : decode cM_put 66 = .ok (.iinc 2 1, 3) := by decide +kernel
theorem dM_put_69 : decode cM_put 69 = .ok (.goto (-52), 3) := by decide +kernel
theorem dM_put_72 : decode cM_put 72 = .ok (.aload_n 0, 1) := by decide +kernel
theorem dM_put_73 : decode cM_put 73 = .ok (.getfield 70, 3) := by decide +kernel
theorem dM_put_76 : decode cM_put 76 = .ok (.bipush 12, 2) := by decide +kernel
theorem dM_put_78 : decode cM_put 78 = .ok (.if_icmp .le 8, 3) := by decide +kernel
theorem dM_put_81 : decode cM_put 81 = .ok (.aload_n 0, 1) := by decide +kernel
theorem dM_put_82 : decode cM_put 82 = .ok (.iconst 1, 1) := by decide +kernel
theorem dM_put_83 : decode cM_put 83 = .ok (.putfield 181, 3) := by decide +kernel
theorem dM_put_86 : decode cM_put 86 = .ok (.aload_n 0, 1) := by decide +kernel
theorem dM_put_87 : decode cM_put 87 = .ok (.getfield 181, 3) := by decide +kernel
theorem dM_put_90 : decode cM_put 90 = .ok (.ifCond .eq 4, 3) := by decide +kernel
theorem dM_put_93 : decode cM_put 93 = .ok (.return_, 1) := by decide +kernel
theorem dM_put_94 : decode cM_put 94 = .ok (.iconst 0, 1) := by decide +kernel
theorem dM_put_95 : decode cM_put 95 = .ok (.istore_n 2, 1) := by decide +kernel
theorem dM_put_96 : decode cM_put 96 = .ok (.iload_n 2, 1) := by decide +kernel
theorem dM_put_97 : decode cM_put 97 = .ok (.aload_n 0, 1) := by decide +kernel
theorem dM_put_98 : decode cM_put 98 = .ok (.getfield 7, 3) := by decide +kernel
theorem dM_put_101 : decode cM_put 101 = .ok (.iload_n 1, 1) := by decide +kernel
theorem dM_put_102 : decode cM_put 102 = .ok (.iaload, 1) := by decide +kernel
theorem dM_put_103 : decode cM_put 103 = .ok (.if_icmp .ge 19, 3) := by decide +kernel
theorem dM_put_106 : decode cM_put 106 = .ok (.aload_n 0, 1) := by decide +kernel
theorem dM_put_107 : decode cM_put 107 = .ok (.iload_n 1, 1) := by decide +kernel
theorem dM_put_108 : decode cM_put 108 = .ok (.iload_n 2, 1) := by decide +kernel
theorem dM_put_109 : decode cM_put 109 = .ok (.invokevirtual 191, 3) := by decide +kernel
theorem dM_put_112 : decode cM_put 112 = .ok (.ifCond .eq 4, 3) := by decide +kernel
theorem dM_put_115 : decode cM_put 115 = .ok (.return_, 1) := by decide +kernel
theorem dM_put_116 : decode cM_put 116 = .ok (.iinc 2 1, 3) := by decide +kernel
theorem dM_put_119 : decode cM_put 119 = .ok (.goto (-23), 3) := by decide +kernel
theorem dM_put_122 : decode cM_put 122 = .ok (.aload_n 0, 1) := by decide +kernel
theorem dM_put_123 : decode cM_put 123 = .ok (.getfield 7, 3) := by decide +kernel
theorem dM_put_126 : decode cM_put 126 = .ok (.iload_n 1, 1) := by decide +kernel
theorem dM_put_127 : decode cM_put 127 = .ok (.iaload, 1) := by decide +kernel
theorem dM_put_128 : decode cM_put 128 = .ok (.bipush 12, 2) := by decide +kernel
theorem dM_put_130 : decode cM_put 130 = .ok (.if_icmp .ne 9, 3) := by decide +kernel
theorem dM_put_133 : decode cM_put 133 = .ok (.aload_n 0, 1) := by decide +kernel
theorem dM_put_134 : decode cM_put 134 = .ok (.iconst 1, 1) := by decide +kernel
theorem dM_put_135 : decode cM_put 135 = .ok (.putfield 181, 3) := by decide +kernel
theorem dM_put_138 : decode cM_put 138 = .ok (.return_, 1) := by decide +kernel
theorem dM_put_139 : decode cM_put 139 = .ok (.aload_n 0, 1) := by decide +kernel
theorem dM_put_140 : decode cM_put 140 = .ok (.getfield 7, 3) := by decide +kernel
theorem dM_put_143 : decode cM_put 143 = .ok (.iload_n 1, 1) := by decide +kernel
theorem dM_put_144 : decode cM_put 144 = .ok (.iaload, 1) := by decide +kernel
theorem dM_put_145 : decode cM_put 145 = .ok (.istore_n 2, 1) := by decide +kernel
theorem dM_put_146 : decode cM_put 146 = .ok (.aload_n 0, 1) := by decide +kernel
theorem dM_put_147 : decode cM_put 147 = .ok (.getfield 13, 3) := by decide +kernel
theorem dM_put_150 : decode cM_put 150 = .ok (.bipush 12, 2) := by decide +kernel
theorem dM_put_152 : decode cM_put 152 = .ok (.iload_n 1, 1) := by decide +kernel
theorem dM_put_153 : decode cM_put 153 = .ok (.imul, 1) := by decide +kernel
theorem dM_put_154 : decode cM_put 154 = .ok (.iload_n 2, 1) := by decide +kernel
theorem dM_put_155 : decode cM_put 155 = .ok (.iadd, 1) := by decide +kernel
theorem dM_put_156 : decode cM_put 156 = .ok (.aload_n 0, 1) := by decide +kernel
theorem dM_put_157 : decode cM_put 157 = .ok (.getfield 70, 3) := by decide +kernel
theorem dM_put_160 : decode cM_put 160 = .ok (.iastore, 1) := by decide +kernel
theorem dM_put_161 : decode cM_put 161 = .ok (.iconst 0, 1) := by decide +kernel
theorem dM_put_162 : decode cM_put 162 = .ok (.istore_n 3, 1) := by decide +kernel
theorem dM_put_163 : decode cM_put 163 = .ok (.iload_n 3, 1) := by decide +kernel
theorem dM_put_164 : decode cM_put 164 = .ok (.aload_n 0, 1) := by decide +kernel
theorem dM_put_165 : decode cM_put 165 = .ok (.getfield 70, 3) := by decide +kernel
theorem dM_put_168 : decode cM_put 168 = .ok (.if_icmp .ge 72, 3) := by decide +kernel
theorem dM_put_171 : decode cM_put 171 = .ok (.iload_n 1, 1) := by decide +kernel
theorem dM_put_172 : decode cM_put 172 = .ok (.iload_n 2, 1) := by decide +kernel
theorem dM_put_173 : decode cM_put 173 = .ok (.iload_n 3, 1) := by decide +kernel
theorem dM_put_174 : decode cM_put 174 = .ok (.invokestatic 149, 3) := by decide +kernel
theorem dM_put_177 : decode cM_put 177 = .ok (.istore 4, 2) := by decide +kernel
theorem dM_put_179 : decode cM_put 179 = .ok (.aload_n 0, 1) := by decide +kernel
theorem dM_put_180 : decode cM_put 180 = .ok (.getfield 16, 3) := by decide +kernel
theorem dM_put_183 : decode cM_put 183 = .ok (.iload 4, 2) := by decide +kernel
theorem dM_put_185 : decode cM_put 185 = .ok (.aload_n 0, 1) := by decide +kernel
theorem dM_put_186 : decode cM_put 186 = .ok (.getfield 41, 3) := by decide +kernel
theorem dM_put_189 : decode cM_put 189 = .ok (.iload_n 3, 1) := by decide +kernel
theorem dM_put_190 : decode cM_put 190 = .ok (.laload, 1) := by decide +kernel
theorem dM_put_191 : decode cM_put 191 = .ok (.l2i, 1) := by decide +kernel
theorem dM_put_192 : decode cM_put 192 = .ok (.iastore, 1) := by decide +kernel
theorem dM_put_193 : decode cM_put 193 = .ok (.aload_n 0, 1) := by decide +kernel
theorem dM_put_194 : decode cM_put 194 = .ok (.getfield 19, 3) := by decide +kernel
theorem dM_put_197 : decode cM_put 197 = .ok (.iload 4, 2) := by decide +kernel
theorem dM_put_199 : decode cM_put 199 = .ok (.aload_n 0, 1) := by decide +kernel
theorem dM_put_200 : decode cM_put 200 = .ok (.getfield 45, 3) := by decide +kernel
theorem dM_put_203 : decode cM_put 203 = .ok (.iload_n 3, 1) := by decide +kernel
theorem dM_put_204 : decode cM_put 204 = .ok (.laload, 1) := by decide +kernel
theorem dM_put_205 : decode cM_put 205 = .ok (.l2i, 1) := by decide +kernel
theorem dM_put_206 : decode cM_put 206 = .ok (.iastore, 1) := by decide +kernel
theorem dM_put_207 : decode cM_put 207 = .ok (.aload_n 0, 1) := by decide +kernel
theorem dM_put_208 : decode cM_put 208 = .ok (.getfield 22, 3) := by decide +kernel
theorem dM_put_211 : decode cM_put 211 = .ok (.iload 4, 2) := by decide +kernel
theorem dM_put_213 : decode cM_put 213 = .ok (.aload_n 0, 1) := by decide +kernel
theorem dM_put_214 : decode cM_put 214 = .ok (.getfield 48, 3) := by decide +kernel
theorem dM_put_217 : decode cM_put 217 = .ok (.iload_n 3, 1) := by decide +kernel
theorem dM_put_218 : decode cM_put 218 = .ok (.laload, 1) := by decide +kernel
theorem dM_put_219 : decode cM_put 219 = .ok (.l2i, 1) := by decide +kernel
theorem dM_put_220 : decode cM_put 220 = .ok (.iastore, 1) := by decide +kernel
theorem dM_put_221 : decode cM_put 221 = .ok (.aload_n 0, 1) := by decide +kernel
theorem dM_put_222 : decode cM_put 222 = .ok (.getfield 25, 3) := by decide +kernel
theorem dM_put_225 : decode cM_put 225 = .ok (.iload 4, 2) := by decide +kernel
theorem dM_put_227 : decode cM_put 227 = .ok (.aload_n 0, 1) := by decide +kernel
theorem dM_put_228 : decode cM_put 228 = .ok (.getfield 51, 3) := by decide +kernel
theorem dM_put_231 : decode cM_put 231 = .ok (.iload_n 3, 1) := by decide +kernel
theorem dM_put_232 : decode cM_put 232 = .ok (.baload, 1) := by decide +kernel
theorem dM_put_233 : decode cM_put 233 = .ok (.bastore, 1) := by decide +kernel
theorem dM_put_234 : decode cM_put 234 = .ok (.iinc 3 1, 3) := by decide +kernel
theorem dM_put_237 : decode cM_put 237 = .ok (.goto (-74), 3) := by decide +kernel
theorem dM_put_240 : decode cM_put 240 = .ok (.aload_n 0, 1) := by decide +kernel
theorem dM_put_241 : decode cM_put 241 = .ok (.getfield 7, 3) := by decide +kernel
theorem dM_put_244 : decode cM_put 244 = .ok (.iload_n 1, 1) := by decide +kernel
theorem dM_put_245 : decode cM_put 245 = .ok (.dup2, 1) := by decide +kernel
theorem dM_put_246 : decode cM_put 246 = .ok (.iaload, 1) := by decide +kernel
theorem dM_put_247 : decode cM_put 247 = .ok (.iconst 1, 1) := by decide +kernel
theorem dM_put_248 : decode cM_put 248 = .ok (.iadd, 1) := by decide +kernel
theorem dM_put_249 : decode cM_put 249 = .ok (.iastore, 1) := by decide +kernel
theorem dM_put_250 : decode cM_put 250 = .ok (.return_, 1) := by decide +kernel
theorem dM_isFar_0 : decode cM_isFar 0 = .ok (.lload_n 0, 1) := by decide +kernel
theorem dM_isFar_1 : decode cM_isFar 1 = .ok (.ldc2_w 194, 3) := by decide +kernel
theorem dM_isFar_4 : decode cM_isFar 4 = .ok (.lcmp, 1) := by decide +kernel
theorem dM_isFar_5 : decode cM_isFar 5 = .ok (.ifCond .lt 11, 3) := by decide +kernel
theorem dM_isFar_8 : decode cM_isFar 8 = .ok (.lload_n 0, 1) := by decide +kernel
theorem dM_isFar_9 : decode cM_isFar 9 = .ok (.ldc2_w 196, 3) := by decide +kernel
theorem dM_isFar_12 : decode cM_isFar 12 = .ok (.lcmp, 1) := by decide +kernel
theorem dM_isFar_13 : decode cM_isFar 13 = .ok (.ifCond .le 7, 3) := by decide +kernel
theorem dM_isFar_16 : decode cM_isFar 16 = .ok (.iconst 1, 1) := by decide +kernel
theorem dM_isFar_17 : decode cM_isFar 17 = .ok (.goto 4, 3) := by decide +kernel
theorem dM_isFar_20 : decode cM_isFar 20 = .ok (.iconst 0, 1) := by decide +kernel
theorem dM_isFar_21 : decode cM_isFar 21 = .ok (.ireturn, 1) := by decide +kernel
theorem dM_copy_0 : decode cM_copy 0 = .ok (.aload_n 0, 1) := by decide +kernel
theorem dM_copy_1 : decode cM_copy 1 = .ok (.getfield 7, 3) := by decide +kernel
theorem dM_copy_4 : decode cM_copy 4 = .ok (.iload_n 1, 1) := by decide +kernel
theorem dM_copy_5 : decode cM_copy 5 = .ok (.aload_n 0, 1) := by decide +kernel
theorem dM_copy_6 : decode cM_copy 6 = .ok (.getfield 7, 3) := by decide +kernel
theorem dM_copy_9 : decode cM_copy 9 = .ok (.iload_n 2, 1) := by decide +kernel
theorem dM_copy_10 : decode cM_copy 10 = .ok (.iaload, 1) := by decide +kernel
theorem dM_copy_11 : decode cM_copy 11 = .ok (.iastore, 1) := by decide +kernel
theorem dM_copy_12 : decode cM_copy 12 = .ok (.iconst 0, 1) := by decide +kernel
theorem dM_copy_13 : decode cM_copy 13 = .ok (.istore_n 3, 1) := by decide +kernel
theorem dM_copy_14 : decode cM_copy 14 = .ok (.iload_n 3, 1) := by decide +kernel
theorem dM_copy_15 : decode cM_copy 15 = .ok (.aload_n 0, 1) := by decide +kernel
theorem dM_copy_16 : decode cM_copy 16 = .ok (.getfield 7, 3) := by decide +kernel
theorem dM_copy_19 : decode cM_copy 19 = .ok (.iload_n 2, 1) := by decide +kernel
theorem dM_copy_20 : decode cM_copy 20 = .ok (.iaload, 1) := by decide +kernel
theorem dM_copy_21 : decode cM_copy 21 = .ok (.if_icmp .ge 31, 3) := by decide +kernel
theorem dM_copy_24 : decode cM_copy 24 = .ok (.aload_n 0, 1) := by decide +kernel
theorem dM_copy_25 : decode cM_copy 25 = .ok (.getfield 13, 3) := by decide +kernel
theorem dM_copy_28 : decode cM_copy 28 = .ok (.bipush 12, 2) := by decide +kernel
theorem dM_copy_30 : decode cM_copy 30 = .ok (.iload_n 1, 1) := by decide +kernel
theorem dM_copy_31 : decode cM_copy 31 = .ok (.imul, 1) := by decide +kernel
theorem dM_copy_32 : decode cM_copy 32 = .ok (.iload_n 3, 1) := by decide +kernel
theorem dM_copy_33 : decode cM_copy 33 = .ok (.iadd, 1) := by decide +kernel
theorem dM_copy_34 : decode cM_copy 34 = .ok (.aload_n 0, 1) := by decide +kernel
theorem dM_copy_35 : decode cM_copy 35 = .ok (.getfield 13, 3) := by decide +kernel
theorem dM_copy_38 : decode cM_copy 38 = .ok (.bipush 12, 2) := by decide +kernel
theorem dM_copy_40 : decode cM_copy 40 = .ok (.iload_n 2, 1) := by decide +kernel
theorem dM_copy_41 : decode cM_copy 41 = .ok (.imul, 1) := by decide +kernel
theorem dM_copy_42 : decode cM_copy 42 = .ok (.iload_n 3, 1) := by decide +kernel
theorem dM_copy_43 : decode cM_copy 43 = .ok (.iadd, 1) := by decide +kernel
theorem dM_copy_44 : decode cM_copy 44 = .ok (.iaload, 1) := by decide +kernel
theorem dM_copy_45 : decode cM_copy 45 = .ok (.iastore, 1) := by decide +kernel
theorem dM_copy_46 : decode cM_copy 46 = .ok (.iinc 3 1, 3) := by decide +kernel
theorem dM_copy_49 : decode cM_copy 49 = .ok (.goto (-35), 3) := by decide +kernel
theorem dM_copy_52 : decode cM_copy 52 = .ok (.iconst 0, 1) := by decide +kernel
theorem dM_copy_53 : decode cM_copy 53 = .ok (.istore_n 3, 1) := by decide +kernel
theorem dM_copy_54 : decode cM_copy 54 = .ok (.iload_n 3, 1) := by decide +kernel
theorem dM_copy_55 : decode cM_copy 55 = .ok (.sipush 144, 3) := by decide +kernel
theorem dM_copy_58 : decode cM_copy 58 = .ok (.if_icmp .ge 105, 3) := by decide +kernel
theorem dM_copy_61 : decode cM_copy 61 = .ok (.aload_n 0, 1) := by decide +kernel
theorem dM_copy_62 : decode cM_copy 62 = .ok (.getfield 16, 3) := by decide +kernel
theorem dM_copy_65 : decode cM_copy 65 = .ok (.sipush 144, 3) := by decide +kernel
theorem dM_copy_68 : decode cM_copy 68 = .ok (.iload_n 1, 1) := by decide +kernel
theorem dM_copy_69 : decode cM_copy 69 = .ok (.imul, 1) := by decide +kernel
theorem dM_copy_70 : decode cM_copy 70 = .ok (.iload_n 3, 1) := by decide +kernel
theorem dM_copy_71 : decode cM_copy 71 = .ok (.iadd, 1) := by decide +kernel
theorem dM_copy_72 : decode cM_copy 72 = .ok (.aload_n 0, 1) := by decide +kernel
theorem dM_copy_73 : decode cM_copy 73 = .ok (.getfield 16, 3) := by decide +kernel
theorem dM_copy_76 : decode cM_copy 76 = .ok (.sipush 144, 3) := by decide +kernel
theorem dM_copy_79 : decode cM_copy 79 = .ok (.iload_n 2, 1) := by decide +kernel
theorem dM_copy_80 : decode cM_copy 80 = .ok (.imul, 1) := by decide +kernel
theorem dM_copy_81 : decode cM_copy 81 = .ok (.iload_n 3, 1) := by decide +kernel
theorem dM_copy_82 : decode cM_copy 82 = .ok (.iadd, 1) := by decide +kernel
theorem dM_copy_83 : decode cM_copy 83 = .ok (.iaload, 1) := by decide +kernel
theorem dM_copy_84 : decode cM_copy 84 = .ok (.iastore, 1) := by decide +kernel
theorem dM_copy_85 : decode cM_copy 85 = .ok (.aload_n 0, 1) := by decide +kernel
theorem dM_copy_86 : decode cM_copy 86 = .ok (.getfield 19, 3) := by decide +kernel
theorem dM_copy_89 : decode cM_copy 89 = .ok (.sipush 144, 3) := by decide +kernel
theorem dM_copy_92 : decode cM_copy 92 = .ok (.iload_n 1, 1) := by decide +kernel
theorem dM_copy_93 : decode cM_copy 93 = .ok (.imul, 1) := by decide +kernel
theorem dM_copy_94 : decode cM_copy 94 = .ok (.iload_n 3, 1) := by decide +kernel
theorem dM_copy_95 : decode cM_copy 95 = .ok (.iadd, 1) := by decide +kernel
theorem dM_copy_96 : decode cM_copy 96 = .ok (.aload_n 0, 1) := by decide +kernel
theorem dM_copy_97 : decode cM_copy 97 = .ok (.getfield 19, 3) := by decide +kernel
theorem dM_copy_100 : decode cM_copy 100 = .ok (.sipush 144, 3) := by decide +kernel
theorem dM_copy_103 : decode cM_copy 103 = .ok (.iload_n 2, 1) := by decide +kernel
theorem dM_copy_104 : decode cM_copy 104 = .ok (.imul, 1) := by decide +kernel
theorem dM_copy_105 : decode cM_copy 105 = .ok (.iload_n 3, 1) := by decide +kernel
theorem dM_copy_106 : decode cM_copy 106 = .ok (.iadd, 1) := by decide +kernel
theorem dM_copy_107 : decode cM_copy 107 = .ok (.iaload, 1) := by decide +kernel
theorem dM_copy_108 : decode cM_copy 108 = .ok (.iastore, 1) := by decide +kernel
theorem dM_copy_109 : decode cM_copy 109 = .ok (.aload_n 0, 1) := by decide +kernel
theorem dM_copy_110 : decode cM_copy 110 = .ok (.getfield 22, 3) := by decide +kernel
theorem dM_copy_113 : decode cM_copy 113 = .ok (.sipush 144, 3) := by decide +kernel
theorem dM_copy_116 : decode cM_copy 116 = .ok (.iload_n 1, 1) := by decide +kernel
theorem dM_copy_117 : decode cM_copy 117 = .ok (.imul, 1) := by decide +kernel
theorem dM_copy_118 : decode cM_copy 118 = .ok (.iload_n 3, 1) := by decide +kernel
theorem dM_copy_119 : decode cM_copy 119 = .ok (.iadd, 1) := by decide +kernel
theorem dM_copy_120 : decode cM_copy 120 = .ok (.aload_n 0, 1) := by decide +kernel
theorem dM_copy_121 : decode cM_copy 121 = .ok (.getfield 22, 3) := by decide +kernel
theorem dM_copy_124 : decode cM_copy 124 = .ok (.sipush 144, 3) := by decide +kernel
theorem dM_copy_127 : decode cM_copy 127 = .ok (.iload_n 2, 1) := by decide +kernel
theorem dM_copy_128 : decode cM_copy 128 = .ok (.imul, 1) := by decide +kernel
theorem dM_copy_129 : decode cM_copy 129 = .ok (.iload_n 3, 1) := by decide +kernel
theorem dM_copy_130 : decode cM_copy 130 = .ok (.iadd, 1) := by decide +kernel
theorem dM_copy_131 : decode cM_copy 131 = .ok (.iaload, 1) := by decide +kernel
theorem dM_copy_132 : decode cM_copy 132 = .ok (.iastore, 1) := by decide +kernel
theorem dM_copy_133 : decode cM_copy 133 = .ok (.aload_n 0, 1) := by decide +kernel
theorem dM_copy_134 : decode cM_copy 134 = .ok (.getfield 25, 3) := by decide +kernel
theorem dM_copy_137 : decode cM_copy 137 = .ok (.sipush 144, 3) := by decide +kernel
theorem dM_copy_140 : decode cM_copy 140 = .ok (.iload_n 1, 1) := by decide +kernel
theorem dM_copy_141 : decode cM_copy 141 = .ok (.imul, 1) := by decide +kernel
theorem dM_copy_142 : decode cM_copy 142 = .ok (.iload_n 3, 1) := by decide +kernel
theorem dM_copy_143 : decode cM_copy 143 = .ok (.iadd, 1) := by decide +kernel
