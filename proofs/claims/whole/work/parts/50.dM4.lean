theorem dM_rows_9 : decode cM_rows 9 = .ok (.iconst 1, 1) := by decide +kernel
theorem dM_rows_10 : decode cM_rows 10 = .ok (.goto 4, 3) := by decide +kernel
theorem dM_rows_13 : decode cM_rows 13 = .ok (.iconst 0, 1) := by decide +kernel
theorem dM_rows_14 : decode cM_rows 14 = .ok (.putfield 66, 3) := by decide +kernel
theorem dM_rows_17 : decode cM_rows 17 = .ok (.aload_n 0, 1) := by decide +kernel
theorem dM_rows_18 : decode cM_rows 18 = .ok (.getfield 66, 3) := by decide +kernel
theorem dM_rows_21 : decode cM_rows 21 = .ok (.ifCond .le 7, 3) := by decide +kernel
theorem dM_rows_24 : decode cM_rows 24 = .ok (.iconst 0, 1) := by decide +kernel
theorem dM_rows_25 : decode cM_rows 25 = .ok (.goto 14, 3) := by decide +kernel
theorem dM_rows_28 : decode cM_rows 28 = .ok (.aload_n 0, 1) := by decide +kernel
theorem dM_rows_29 : decode cM_rows 29 = .ok (.getfield 7, 3) := by decide +kernel
theorem dM_rows_32 : decode cM_rows 32 = .ok (.aload_n 0, 1) := by decide +kernel
theorem dM_rows_33 : decode cM_rows 33 = .ok (.getfield 220, 3) := by decide +kernel
theorem dM_rows_36 : decode cM_rows 36 = .ok (.iconst 1, 1) := by decide +kernel
theorem dM_rows_37 : decode cM_rows 37 = .ok (.isub, 1) := by decide +kernel
theorem dM_rows_38 : decode cM_rows 38 = .ok (.iaload, 1) := by decide +kernel
theorem dM_rows_39 : decode cM_rows 39 = .ok (.ireturn, 1) := by decide +kernel
theorem dM_isRowThere_0 : decode cM_isRowThere 0 = .ok (.iload_n 1, 1) := by decide +kernel
theorem dM_isRowThere_1 : decode cM_isRowThere 1 = .ok (.ifCond .lt 22, 3) := by decide +kernel
theorem dM_isRowThere_4 : decode cM_isRowThere 4 = .ok (.iload_n 1, 1) := by decide +kernel
theorem dM_isRowThere_5 : decode cM_isRowThere 5 = .ok (.aload_n 0, 1) := by decide +kernel
theorem dM_isRowThere_6 : decode cM_isRowThere 6 = .ok (.getfield 7, 3) := by decide +kernel
theorem dM_isRowThere_9 : decode cM_isRowThere 9 = .ok (.aload_n 0, 1) := by decide +kernel
theorem dM_isRowThere_10 : decode cM_isRowThere 10 = .ok (.getfield 220, 3) := by decide +kernel
theorem dM_isRowThere_13 : decode cM_isRowThere 13 = .ok (.iconst 1, 1) := by decide +kernel
theorem dM_isRowThere_14 : decode cM_isRowThere 14 = .ok (.isub, 1) := by decide +kernel
theorem dM_isRowThere_15 : decode cM_isRowThere 15 = .ok (.iaload, 1) := by decide +kernel
theorem dM_isRowThere_16 : decode cM_isRowThere 16 = .ok (.if_icmp .ge 7, 3) := by decide +kernel
theorem dM_isRowThere_19 : decode cM_isRowThere 19 = .ok (.iconst 1, 1) := by decide +kernel
theorem dM_isRowThere_20 : decode cM_isRowThere 20 = .ok (.goto 4, 3) := by decide +kernel
theorem dM_isRowThere_23 : decode cM_isRowThere 23 = .ok (.iconst 0, 1) := by decide +kernel
theorem dM_isRowThere_24 : decode cM_isRowThere 24 = .ok (.ireturn, 1) := by decide +kernel
theorem dM_members_0 : decode cM_members 0 = .ok (.aload_n 0, 1) := by decide +kernel
theorem dM_members_1 : decode cM_members 1 = .ok (.aload_n 0, 1) := by decide +kernel
theorem dM_members_2 : decode cM_members 2 = .ok (.getfield 220, 3) := by decide +kernel
theorem dM_members_5 : decode cM_members 5 = .ok (.iconst 1, 1) := by decide +kernel
theorem dM_members_6 : decode cM_members 6 = .ok (.if_icmp .ge 7, 3) := by decide +kernel
theorem dM_members_9 : decode cM_members 9 = .ok (.iconst 1, 1) := by decide +kernel
theorem dM_members_10 : decode cM_members 10 = .ok (.goto 16, 3) := by decide +kernel
theorem dM_members_13 : decode cM_members 13 = .ok (.aload_n 0, 1) := by decide +kernel
theorem dM_members_14 : decode cM_members 14 = .ok (.iload_n 1, 1) := by decide +kernel
theorem dM_members_15 : decode cM_members 15 = .ok (.invokevirtual 229, 3) := by decide +kernel
theorem dM_members_18 : decode cM_members 18 = .ok (.ifCond .ne 7, 3) := by decide +kernel
theorem dM_members_21 : decode cM_members 21 = .ok (.iconst 2, 1) := by decide +kernel
theorem dM_members_22 : decode cM_members 22 = .ok (.goto 4, 3) := by decide +kernel
theorem dM_members_25 : decode cM_members 25 = .ok (.iconst 0, 1) := by decide +kernel
theorem dM_members_26 : decode cM_members 26 = .ok (.putfield 66, 3) := by decide +kernel
theorem dM_members_29 : decode cM_members 29 = .ok (.aload_n 0, 1) := by decide +kernel
theorem dM_members_30 : decode cM_members 30 = .ok (.getfield 66, 3) := by decide +kernel
theorem dM_members_33 : decode cM_members 33 = .ok (.ifCond .le 7, 3) := by decide +kernel
theorem dM_members_36 : decode cM_members 36 = .ok (.iconst 0, 1) := by decide +kernel
theorem dM_members_37 : decode cM_members 37 = .ok (.goto 19, 3) := by decide +kernel
theorem dM_members_40 : decode cM_members 40 = .ok (.aload_n 0, 1) := by decide +kernel
theorem dM_members_41 : decode cM_members 41 = .ok (.getfield 13, 3) := by decide +kernel
theorem dM_members_44 : decode cM_members 44 = .ok (.bipush 12, 2) := by decide +kernel
theorem dM_members_46 : decode cM_members 46 = .ok (.aload_n 0, 1) := by decide +kernel
theorem dM_members_47 : decode cM_members 47 = .ok (.getfield 220, 3) := by decide +kernel
theorem dM_members_50 : decode cM_members 50 = .ok (.iconst 1, 1) := by decide +kernel
theorem dM_members_51 : decode cM_members 51 = .ok (.isub, 1) := by decide +kernel
theorem dM_members_52 : decode cM_members 52 = .ok (.imul, 1) := by decide +kernel
theorem dM_members_53 : decode cM_members 53 = .ok (.iload_n 1, 1) := by decide +kernel
theorem dM_members_54 : decode cM_members 54 = .ok (.iadd, 1) := by decide +kernel
theorem dM_members_55 : decode cM_members 55 = .ok (.iaload, 1) := by decide +kernel
theorem dM_members_56 : decode cM_members 56 = .ok (.ireturn, 1) := by decide +kernel
theorem dM_part_0 : decode cM_part 0 = .ok (.aload_n 0, 1) := by decide +kernel
theorem dM_part_1 : decode cM_part 1 = .ok (.aload_n 0, 1) := by decide +kernel
theorem dM_part_2 : decode cM_part 2 = .ok (.getfield 220, 3) := by decide +kernel
theorem dM_part_5 : decode cM_part 5 = .ok (.iconst 1, 1) := by decide +kernel
theorem dM_part_6 : decode cM_part 6 = .ok (.if_icmp .ge 7, 3) := by decide +kernel
theorem dM_part_9 : decode cM_part 9 = .ok (.iconst 1, 1) := by decide +kernel
theorem dM_part_10 : decode cM_part 10 = .ok (.goto 53, 3) := by decide +kernel
theorem dM_part_13 : decode cM_part 13 = .ok (.aload_n 0, 1) := by decide +kernel
theorem dM_part_14 : decode cM_part 14 = .ok (.iload_n 1, 1) := by decide +kernel
theorem dM_part_15 : decode cM_part 15 = .ok (.invokevirtual 229, 3) := by decide +kernel
theorem dM_part_18 : decode cM_part 18 = .ok (.ifCond .eq 27, 3) := by decide +kernel
theorem dM_part_21 : decode cM_part 21 = .ok (.iload_n 2, 1) := by decide +kernel
theorem dM_part_22 : decode cM_part 22 = .ok (.ifCond .lt 23, 3) := by decide +kernel
theorem dM_part_25 : decode cM_part 25 = .ok (.iload_n 2, 1) := by decide +kernel
theorem dM_part_26 : decode cM_part 26 = .ok (.aload_n 0, 1) := by decide +kernel
theorem dM_part_27 : decode cM_part 27 = .ok (.getfield 13, 3) := by decide +kernel
theorem dM_part_30 : decode cM_part 30 = .ok (.bipush 12, 2) := by decide +kernel
theorem dM_part_32 : decode cM_part 32 = .ok (.aload_n 0, 1) := by decide +kernel
theorem dM_part_33 : decode cM_part 33 = .ok (.getfield 220, 3) := by decide +kernel
theorem dM_part_36 : decode cM_part 36 = .ok (.iconst 1, 1) := by decide +kernel
theorem dM_part_37 : decode cM_part 37 = .ok (.isub, 1) := by decide +kernel
theorem dM_part_38 : decode cM_part 38 = .ok (.imul, 1) := by decide +kernel
theorem dM_part_39 : decode cM_part 39 = .ok (.iload_n 1, 1) := by decide +kernel
theorem dM_part_40 : decode cM_part 40 = .ok (.iadd, 1) := by decide +kernel
theorem dM_part_41 : decode cM_part 41 = .ok (.iaload, 1) := by decide +kernel
theorem dM_part_42 : decode cM_part 42 = .ok (.if_icmp .lt 7, 3) := by decide +kernel
theorem dM_part_45 : decode cM_part 45 = .ok (.iconst 2, 1) := by decide +kernel
theorem dM_part_46 : decode cM_part 46 = .ok (.goto 17, 3) := by decide +kernel
theorem dM_part_49 : decode cM_part 49 = .ok (.iload_n 3, 1) := by decide +kernel
theorem dM_part_50 : decode cM_part 50 = .ok (.ifCond .lt 8, 3) := by decide +kernel
theorem dM_part_53 : decode cM_part 53 = .ok (.iload_n 3, 1) := by decide +kernel
theorem dM_part_54 : decode cM_part 54 = .ok (.iconst 3, 1) := by decide +kernel
theorem dM_part_55 : decode cM_part 55 = .ok (.if_icmp .le 7, 3) := by decide +kernel
theorem dM_part_58 : decode cM_part 58 = .ok (.iconst 3, 1) := by decide +kernel
theorem dM_part_59 : decode cM_part 59 = .ok (.goto 4, 3) := by decide +kernel
theorem dM_part_62 : decode cM_part 62 = .ok (.iconst 0, 1) := by decide +kernel
theorem dM_part_63 : decode cM_part 63 = .ok (.putfield 66, 3) := by decide +kernel
theorem dM_part_66 : decode cM_part 66 = .ok (.aload_n 0, 1) := by decide +kernel
theorem dM_part_67 : decode cM_part 67 = .ok (.getfield 66, 3) := by decide +kernel
theorem dM_part_70 : decode cM_part 70 = .ok (.ifCond .le 5, 3) := by decide +kernel
theorem dM_part_73 : decode cM_part 73 = .ok (.iconst 0, 1) := by decide +kernel
theorem dM_part_74 : decode cM_part 74 = .ok (.ireturn, 1) := by decide +kernel
theorem dM_part_75 : decode cM_part 75 = .ok (.aload_n 0, 1) := by decide +kernel
theorem dM_part_76 : decode cM_part 76 = .ok (.getfield 220, 3) := by decide +kernel
theorem dM_part_79 : decode cM_part 79 = .ok (.iconst 1, 1) := by decide +kernel
theorem dM_part_80 : decode cM_part 80 = .ok (.isub, 1) := by decide +kernel
theorem dM_part_81 : decode cM_part 81 = .ok (.iload_n 1, 1) := by decide +kernel
theorem dM_part_82 : decode cM_part 82 = .ok (.iload_n 2, 1) := by decide +kernel
theorem dM_part_83 : decode cM_part 83 = .ok (.invokestatic 149, 3) := by decide +kernel
theorem dM_part_86 : decode cM_part 86 = .ok (.istore 4, 2) := by decide +kernel
theorem dM_part_88 : decode cM_part 88 = .ok (.iload_n 3, 1) := by decide +kernel
theorem dM_part_89 : decode cM_part 89 = .ok (.ifCond .ne 13, 3) := by decide +kernel
theorem dM_part_92 : decode cM_part 92 = .ok (.aload_n 0, 1) := by decide +kernel
theorem dM_part_93 : decode cM_part 93 = .ok (.getfield 16, 3) := by decide +kernel
theorem dM_part_96 : decode cM_part 96 = .ok (.iload 4, 2) := by decide +kernel
theorem dM_part_98 : decode cM_part 98 = .ok (.iaload, 1) := by decide +kernel
theorem dM_part_99 : decode cM_part 99 = .ok (.goto 48, 3) := by decide +kernel
theorem dM_part_102 : decode cM_part 102 = .ok (.iload_n 3, 1) := by decide +kernel
theorem dM_part_103 : decode cM_part 103 = .ok (.iconst 1, 1) := by decide +kernel
theorem dM_part_104 : decode cM_part 104 = .ok (.if_icmp .ne 13, 3) := by decide +kernel
theorem dM_part_107 : decode cM_part 107 = .ok (.aload_n 0, 1) := by decide +kernel
theorem dM_part_108 : decode cM_part 108 = .ok (.getfield 19, 3) := by decide +kernel
theorem dM_part_111 : decode cM_part 111 = .ok (.iload 4, 2) := by decide +kernel
theorem dM_part_113 : decode cM_part 113 = .ok (.iaload, 1) := by decide +kernel
theorem dM_part_114 : decode cM_part 114 = .ok (.goto 33, 3) := by decide +kernel
theorem dM_part_117 : decode cM_part 117 = .ok (.iload_n 3, 1) := by decide +kernel
theorem dM_part_118 : decode cM_part 118 = .ok (.iconst 2, 1) := by decide +kernel
theorem dM_part_119 : decode cM_part 119 = .ok (.if_icmp .ne 13, 3) := by decide +kernel
theorem dM_part_122 : decode cM_part 122 = .ok (.aload_n 0, 1) := by decide +kernel
theorem dM_part_123 : decode cM_part 123 = .ok (.getfield 22, 3) := by decide +kernel
theorem dM_part_126 : decode cM_part 126 = .ok (.iload 4, 2) := by decide +kernel
theorem dM_part_128 : decode cM_part 128 = .ok (.iaload, 1) := by decide +kernel
theorem dM_part_129 : decode cM_part 129 = .ok (.goto 18, 3) := by decide +kernel
theorem dM_part_132 : decode cM_part 132 = .ok (.aload_n 0, 1) := by decide +kernel
theorem dM_part_133 : decode cM_part 133 = .ok (.getfield 25, 3) := by decide +kernel
theorem dM_part_136 : decode cM_part 136 = .ok (.iload 4, 2) := by decide +kernel
theorem dM_part_138 : decode cM_part 138 = .ok (.baload, 1) := by decide +kernel
theorem dM_part_139 : decode cM_part 139 = .ok (.ifCond .eq 7, 3) := by decide +kernel
theorem dM_part_142 : decode cM_part 142 = .ok (.iconst 1, 1) := by decide +kernel
theorem dM_part_143 : decode cM_part 143 = .ok (.goto 4, 3) := by decide +kernel
theorem dM_part_146 : decode cM_part 146 = .ok (.iconst 0, 1) := by decide +kernel
theorem dM_part_147 : decode cM_part 147 = .ok (.ireturn, 1) := by decide +kernel
theorem dM_holds_0 : decode cM_holds 0 = .ok (.aload_n 0, 1) := by decide +kernel
theorem dM_holds_1 : decode cM_holds 1 = .ok (.aload_n 0, 1) := by decide +kernel
theorem dM_holds_2 : decode cM_holds 2 = .ok (.getfield 220, 3) := by decide +kernel
theorem dM_holds_5 : decode cM_holds 5 = .ok (.iconst 1, 1) := by decide +kernel
theorem dM_holds_6 : decode cM_holds 6 = .ok (.if_icmp .ge 7, 3) := by decide +kernel
theorem dM_holds_9 : decode cM_holds 9 = .ok (.iconst 1, 1) := by decide +kernel
theorem dM_holds_10 : decode cM_holds 10 = .ok (.goto 36, 3) := by decide +kernel
theorem dM_holds_13 : decode cM_holds 13 = .ok (.iload_n 1, 1) := by decide +kernel
theorem dM_holds_14 : decode cM_holds 14 = .ok (.i2l, 1) := by decide +kernel
theorem dM_holds_15 : decode cM_holds 15 = .ok (.invokestatic 187, 3) := by decide +kernel
theorem dM_holds_18 : decode cM_holds 18 = .ok (.ifCond .ne 23, 3) := by decide +kernel
theorem dM_holds_21 : decode cM_holds 21 = .ok (.iload_n 2, 1) := by decide +kernel
theorem dM_holds_22 : decode cM_holds 22 = .ok (.i2l, 1) := by decide +kernel
theorem dM_holds_23 : decode cM_holds 23 = .ok (.invokestatic 187, 3) := by decide +kernel
theorem dM_holds_26 : decode cM_holds 26 = .ok (.ifCond .ne 15, 3) := by decide +kernel
theorem dM_holds_29 : decode cM_holds 29 = .ok (.iload_n 3, 1) := by decide +kernel
theorem dM_holds_30 : decode cM_holds 30 = .ok (.iconst 1, 1) := by decide +kernel
theorem dM_holds_31 : decode cM_holds 31 = .ok (.if_icmp .lt 10, 3) := by decide +kernel
theorem dM_holds_34 : decode cM_holds 34 = .ok (.iload_n 3, 1) := by decide +kernel
theorem dM_holds_35 : decode cM_holds 35 = .ok (.sipush 1000, 3) := by decide +kernel
theorem dM_holds_38 : decode cM_holds 38 = .ok (.if_icmp .le 7, 3) := by decide +kernel
theorem dM_holds_41 : decode cM_holds 41 = .ok (.iconst 2, 1) := by decide +kernel
theorem dM_holds_42 : decode cM_holds 42 = .ok (.goto 4, 3) := by decide +kernel
theorem dM_holds_45 : decode cM_holds 45 = .ok (.iconst 0, 1) := by decide +kernel
theorem dM_holds_46 : decode cM_holds 46 = .ok (.putfield 66, 3) := by decide +kernel
theorem dM_holds_49 : decode cM_holds 49 = .ok (.aload_n 0, 1) := by decide +kernel
theorem dM_holds_50 : decode cM_holds 50 = .ok (.getfield 66, 3) := by decide +kernel
theorem dM_holds_53 : decode cM_holds 53 = .ok (.ifCond .le 5, 3) := by decide +kernel
theorem dM_holds_56 : decode cM_holds 56 = .ok (.iconst 0, 1) := by decide +kernel
theorem dM_holds_57 : decode cM_holds 57 = .ok (.ireturn, 1) := by decide +kernel
theorem dM_holds_58 : decode cM_holds 58 = .ok (.iconst 0, 1) := by decide +kernel
theorem dM_holds_59 : decode cM_holds 59 = .ok (.istore 4, 2) := by decide +kernel
theorem dM_holds_61 : decode cM_holds 61 = .ok (.iconst 0, 1) := by decide +kernel
theorem dM_holds_62 : decode cM_holds 62 = .ok (.istore 5, 2) := by decide +kernel
theorem dM_holds_64 : decode cM_holds 64 = .ok (.iload 5, 2) := by decide +kernel
theorem dM_holds_66 : decode cM_holds 66 = .ok (.aload_n 0, 1) := by decide +kernel
theorem dM_holds_67 : decode cM_holds 67 = .ok (.getfield 7, 3) := by decide +kernel
theorem dM_holds_70 : decode cM_holds 70 = .ok (.aload_n 0, 1) := by decide +kernel
theorem dM_holds_71 : decode cM_holds 71 = .ok (.getfield 220, 3) := by decide +kernel
theorem dM_holds_74 : decode cM_holds 74 = .ok (.iconst 1, 1) := by decide +kernel
theorem dM_holds_75 : decode cM_holds 75 = .ok (.isub, 1) := by decide +kernel
theorem dM_holds_76 : decode cM_holds 76 = .ok (.iaload, 1) := by decide +kernel
theorem dM_holds_77 : decode cM_holds 77 = .ok (.if_icmp .ge 151, 3) := by decide +kernel
theorem dM_holds_80 : decode cM_holds 80 = .ok (.iconst 1, 1) := by decide +kernel
theorem dM_holds_81 : decode cM_holds 81 = .ok (.istore 6, 2) := by decide +kernel
theorem dM_holds_83 : decode cM_holds 83 = .ok (.iconst 0, 1) := by decide +kernel
theorem dM_holds_84 : decode cM_holds 84 = .ok (.istore 7, 2) := by decide +kernel
theorem dM_holds_86 : decode cM_holds 86 = .ok (.iload 7, 2) := by decide +kernel
theorem dM_holds_88 : decode cM_holds 88 = .ok (.aload_n 0, 1) := by decide +kernel
theorem dM_holds_89 : decode cM_holds 89 = .ok (.getfield 13, 3) := by decide +kernel
theorem dM_holds_92 : decode cM_holds 92 = .ok (.bipush 12, 2) := by decide +kernel
theorem dM_holds_94 : decode cM_holds 94 = .ok (.aload_n 0, 1) := by decide +kernel
theorem dM_holds_95 : decode cM_holds 95 = .ok (.getfield 220, 3) := by decide +kernel
theorem dM_holds_98 : decode cM_holds 98 = .ok (.iconst 1, 1) := by decide +kernel
theorem dM_holds_99 : decode cM_holds 99 = .ok (.isub, 1) := by decide +kernel
theorem dM_holds_100 : decode cM_holds 100 = .ok (.imul, 1) := by decide +kernel
theorem dM_holds_101 : decode cM_holds 101 = .ok (.iload 5, 2) := by decide +kernel
theorem dM_holds_103 : decode cM_holds 103 = .ok (.iadd, 1) := by decide +kernel
theorem dM_holds_104 : decode cM_holds 104 = .ok (.iaload, 1) := by decide +kernel
theorem dM_holds_105 : decode cM_holds 105 = .ok (.if_icmp .ge 100, 3) := by decide +kernel
theorem dM_holds_108 : decode cM_holds 108 = .ok (.aload_n 0, 1) := by decide +kernel
theorem dM_holds_109 : decode cM_holds 109 = .ok (.getfield 220, 3) := by decide +kernel
theorem dM_holds_112 : decode cM_holds 112 = .ok (.iconst 1, 1) := by decide +kernel
theorem dM_holds_113 : decode cM_holds 113 = .ok (.isub, 1) := by decide +kernel
theorem dM_holds_114 : decode cM_holds 114 = .ok (.iload 5, 2) := by decide +kernel
theorem dM_holds_116 : decode cM_holds 116 = .ok (.iload 7, 2) := by decide +kernel
theorem dM_holds_118 : decode cM_holds 118 = .ok (.invokestatic 149, 3) := by decide +kernel
theorem dM_holds_121 : decode cM_holds 121 = .ok (.istore 8, 2) := by decide +kernel
theorem dM_holds_123 : decode cM_holds 123 = .ok (.aload_n 0, 1) := by decide +kernel
theorem dM_holds_124 : decode cM_holds 124 = .ok (.getfield 16, 3) := by decide +kernel
theorem dM_holds_127 : decode cM_holds 127 = .ok (.iload 8, 2) := by decide +kernel
theorem dM_holds_129 : decode cM_holds 129 = .ok (.iaload, 1) := by decide +kernel
theorem dM_holds_130 : decode cM_holds 130 = .ok (.i2l, 1) := by decide +kernel
theorem dM_holds_131 : decode cM_holds 131 = .ok (.iload_n 1, 1) := by decide +kernel
theorem dM_holds_132 : decode cM_holds 132 = .ok (.i2l, 1) := by decide +kernel
theorem dM_holds_133 : decode cM_holds 133 = .ok (.lmul, 1) := by decide +kernel
theorem dM_holds_134 : decode cM_holds 134 = .ok (.aload_n 0, 1) := by decide +kernel
theorem dM_holds_135 : decode cM_holds 135 = .ok (.getfield 19, 3) := by decide +kernel
theorem dM_holds_138 : decode cM_holds 138 = .ok (.iload 8, 2) := by decide +kernel
theorem dM_holds_140 : decode cM_holds 140 = .ok (.iaload, 1) := by decide +kernel
theorem dM_holds_141 : decode cM_holds 141 = .ok (.i2l, 1) := by decide +kernel
theorem dM_holds_142 : decode cM_holds 142 = .ok (.iload_n 2, 1) := by decide +kernel
theorem dM_holds_143 : decode cM_holds 143 = .ok (.i2l, 1) := by decide +kernel
theorem dM_holds_144 : decode cM_holds 144 = .ok (.lmul, 1) := by decide +kernel
theorem dM_holds_145 : decode cM_holds 145 = .ok (.ladd, 1) := by decide +kernel
theorem dM_holds_146 : decode cM_holds 146 = .ok (.lstore 9, 2) := by decide +kernel
theorem dM_holds_148 : decode cM_holds 148 = .ok (.aload_n 0, 1) := by decide +kernel
theorem dM_holds_149 : decode cM_holds 149 = .ok (.getfield 22, 3) := by decide +kernel
theorem dM_holds_152 : decode cM_holds 152 = .ok (.iload 8, 2) := by decide +kernel
theorem dM_holds_154 : decode cM_holds 154 = .ok (.iaload, 1) := by decide +kernel
theorem dM_holds_155 : decode cM_holds 155 = .ok (.i2l, 1) := by decide +kernel
theorem dM_holds_156 : decode cM_holds 156 = .ok (.iload_n 3, 1) := by decide +kernel
theorem dM_holds_157 : decode cM_holds 157 = .ok (.i2l, 1) := by decide +kernel
theorem dM_holds_158 : decode cM_holds 158 = .ok (.lmul, 1) := by decide +kernel
theorem dM_holds_159 : decode cM_holds 159 = .ok (.lstore 11, 2) := by decide +kernel
theorem dM_holds_161 : decode cM_holds 161 = .ok (.iload 6, 2) := by decide +kernel
theorem dM_holds_163 : decode cM_holds 163 = .ok (.ifCond .eq 33, 3) := by decide +kernel
theorem dM_holds_166 : decode cM_holds 166 = .ok (.lload 9, 2) := by decide +kernel
theorem dM_holds_168 : decode cM_holds 168 = .ok (.lload 11, 2) := by decide +kernel
theorem dM_holds_170 : decode cM_holds 170 = .ok (.lcmp, 1) := by decide +kernel
theorem dM_holds_171 : decode cM_holds 171 = .ok (.ifCond .lt 21, 3) := by decide +kernel
theorem dM_holds_174 : decode cM_holds 174 = .ok (.lload 9, 2) := by decide +kernel
theorem dM_holds_176 : decode cM_holds 176 = .ok (.lload 11, 2) := by decide +kernel
theorem dM_holds_178 : decode cM_holds 178 = .ok (.lcmp, 1) := by decide +kernel
theorem dM_holds_179 : decode cM_holds 179 = .ok (.ifCond .ne 17, 3) := by decide +kernel
theorem dM_holds_182 : decode cM_holds 182 = .ok (.aload_n 0, 1) := by decide +kernel
theorem dM_holds_183 : decode cM_holds 183 = .ok (.getfield 25, 3) := by decide +kernel
theorem dM_holds_186 : decode cM_holds 186 = .ok (.iload 8, 2) := by decide +kernel
theorem dM_holds_188 : decode cM_holds 188 = .ok (.baload, 1) := by decide +kernel
theorem dM_holds_189 : decode cM_holds 189 = .ok (.ifCond .ne 7, 3) := by decide +kernel
theorem dM_holds_192 : decode cM_holds 192 = .ok (.iconst 1, 1) := by decide +kernel
theorem dM_holds_193 : decode cM_holds 193 = .ok (.goto 4, 3) := by decide +kernel
theorem dM_holds_196 : decode cM_holds 196 = .ok (.iconst 0, 1) := by decide +kernel
theorem dM_holds_197 : decode cM_holds 197 = .ok (.istore 6, 2) := by decide +kernel
theorem dM_holds_199 : decode cM_holds 199 = .ok (.iinc 7 1, 3) := by decide +kernel
theorem dM_holds_202 : decode cM_holds 202 = .ok (.goto (-116), 3) := by decide +kernel
theorem dM_holds_205 : decode cM_holds 205 = .ok (.iload 4, 2) := by decide +kernel
theorem dM_holds_207 : decode cM_holds 207 = .ok (.ifCond .ne 8, 3) := by decide +kernel
theorem dM_holds_210 : decode cM_holds 210 = .ok (.iload 6, 2) := by decide +kernel
theorem dM_holds_212 : decode cM_holds 212 = .ok (.ifCond .eq 7, 3) := by decide +kernel
theorem dM_holds_215 : decode cM_holds 215 = .ok (.iconst 1, 1) := by decide +kernel
theorem dM_holds_216 : decode cM_holds 216 = .ok (.goto 4, 3) := by decide +kernel
theorem dM_holds_219 : decode cM_holds 219 = .ok (.iconst 0, 1) := by decide +kernel
theorem dM_holds_220 : decode cM_holds 220 = .ok (.istore 4, 2) := by decide +kernel
theorem dM_holds_222 : decode cM_holds 222 = .ok (.iinc 5 1, 3) := by decide +kernel
theorem dM_holds_225 : decode cM_holds 225 = .ok (.goto (-161), 3) := by decide +kernel
theorem dM_holds_228 : decode cM_holds 228 = .ok (.iload 4, 2) := by decide +kernel
theorem dM_holds_230 : decode cM_holds 230 = .ok (.ireturn, 1) := by decide +kernel
theorem dM_within_0 : decode cM_within 0 = .ok (.aload_n 0, 1) := by decide +kernel
theorem dM_within_1 : decode cM_within 1 = .ok (.aload_n 0, 1) := by decide +kernel
theorem dM_within_2 : decode cM_within 2 = .ok (.getfield 220, 3) := by decide +kernel
theorem dM_within_5 : decode cM_within 5 = .ok (.iconst 2, 1) := by decide +kernel
theorem dM_within_6 : decode cM_within 6 = .ok (.if_icmp .ge 7, 3) := by decide +kernel
theorem dM_within_9 : decode cM_within 9 = .ok (.iconst 1, 1) := by decide +kernel
theorem dM_within_10 : decode cM_within 10 = .ok (.goto 4, 3) := by decide +kernel
theorem dM_within_13 : decode cM_within 13 = .ok (.iconst 0, 1) := by decide +kernel
theorem dM_within_14 : decode cM_within 14 = .ok (.putfield 66, 3) := by decide +kernel
theorem dM_within_17 : decode cM_within 17 = .ok (.aload_n 0, 1) := by decide +kernel
theorem dM_within_18 : decode cM_within 18 = .ok (.getfield 66, 3) := by decide +kernel
theorem dM_within_21 : decode cM_within 21 = .ok (.ifCond .le 5, 3) := by decide +kernel
theorem dM_within_24 : decode cM_within 24 = .ok (.iconst 0, 1) := by decide +kernel
theorem dM_within_25 : decode cM_within 25 = .ok (.ireturn, 1) := by decide +kernel
theorem dM_within_26 : decode cM_within 26 = .ok (.aload_n 0, 1) := by decide +kernel
theorem dM_within_27 : decode cM_within 27 = .ok (.iconst 0, 1) := by decide +kernel
theorem dM_within_28 : decode cM_within 28 = .ok (.putfield 181, 3) := by decide +kernel
theorem dM_within_31 : decode cM_within 31 = .ok (.aload_n 0, 1) := by decide +kernel
theorem dM_within_32 : decode cM_within 32 = .ok (.aload_n 0, 1) := by decide +kernel
theorem dM_within_33 : decode cM_within 33 = .ok (.getfield 220, 3) := by decide +kernel
theorem dM_within_36 : decode cM_within 36 = .ok (.iconst 2, 1) := by decide +kernel
theorem dM_within_37 : decode cM_within 37 = .ok (.isub, 1) := by decide +kernel
theorem dM_within_38 : decode cM_within 38 = .ok (.invokevirtual 223, 3) := by decide +kernel
theorem dM_within_41 : decode cM_within 41 = .ok (.aload_n 0, 1) := by decide +kernel
theorem dM_within_42 : decode cM_within 42 = .ok (.getfield 181, 3) := by decide +kernel
theorem dM_within_45 : decode cM_within 45 = .ok (.ifCond .ne 17, 3) := by decide +kernel
theorem dM_within_48 : decode cM_within 48 = .ok (.aload_n 0, 1) := by decide +kernel
theorem dM_within_49 : decode cM_within 49 = .ok (.bipush 10, 2) := by decide +kernel
theorem dM_within_51 : decode cM_within 51 = .ok (.aload_n 0, 1) := by decide +kernel
theorem dM_within_52 : decode cM_within 52 = .ok (.getfield 220, 3) := by decide +kernel
theorem dM_within_55 : decode cM_within 55 = .ok (.iconst 1, 1) := by decide +kernel
theorem dM_within_56 : decode cM_within 56 = .ok (.isub, 1) := by decide +kernel
theorem dM_within_57 : decode cM_within 57 = .ok (.bipush 12, 2) := by decide +kernel
theorem dM_within_59 : decode cM_within 59 = .ok (.invokevirtual 211, 3) := by decide +kernel
theorem dM_within_62 : decode cM_within 62 = .ok (.aload_n 0, 1) := by decide +kernel
theorem dM_within_63 : decode cM_within 63 = .ok (.aload_n 0, 1) := by decide +kernel
theorem dM_within_64 : decode cM_within 64 = .ok (.getfield 181, 3) := by decide +kernel
theorem dM_within_67 : decode cM_within 67 = .ok (.ifCond .eq 7, 3) := by decide +kernel
theorem dM_within_70 : decode cM_within 70 = .ok (.iconst 2, 1) := by decide +kernel
theorem dM_within_71 : decode cM_within 71 = .ok (.goto 4, 3) := by decide +kernel
theorem dM_within_74 : decode cM_within 74 = .ok (.iconst 0, 1) := by decide +kernel
theorem dM_within_75 : decode cM_within 75 = .ok (.putfield 66, 3) := by decide +kernel
theorem dM_within_78 : decode cM_within 78 = .ok (.aload_n 0, 1) := by decide +kernel
theorem dM_within_79 : decode cM_within 79 = .ok (.getfield 66, 3) := by decide +kernel
theorem dM_within_82 : decode cM_within 82 = .ok (.ifCond .ne 17, 3) := by decide +kernel
theorem dM_within_85 : decode cM_within 85 = .ok (.aload_n 0, 1) := by decide +kernel
theorem dM_within_86 : decode cM_within 86 = .ok (.getfield 7, 3) := by decide +kernel
theorem dM_within_89 : decode cM_within 89 = .ok (.bipush 10, 2) := by decide +kernel
theorem dM_within_91 : decode cM_within 91 = .ok (.iaload, 1) := by decide +kernel
theorem dM_within_92 : decode cM_within 92 = .ok (.ifCond .ne 7, 3) := by decide +kernel
theorem dM_within_95 : decode cM_within 95 = .ok (.iconst 1, 1) := by decide +kernel
theorem dM_within_96 : decode cM_within 96 = .ok (.goto 4, 3) := by decide +kernel
theorem dM_within_99 : decode cM_within 99 = .ok (.iconst 0, 1) := by decide +kernel
theorem dM_within_100 : decode cM_within 100 = .ok (.ireturn, 1) := by decide +kernel
theorem dM_ofBand_0 : decode cM_ofBand 0 = .ok (.aload_n 0, 1) := by decide +kernel
theorem dM_ofBand_1 : decode cM_ofBand 1 = .ok (.lload_n 1, 1) := by decide +kernel
theorem dM_ofBand_2 : decode cM_ofBand 2 = .ok (.lconst 0, 1) := by decide +kernel
theorem dM_ofBand_3 : decode cM_ofBand 3 = .ok (.lcmp, 1) := by decide +kernel
theorem dM_ofBand_4 : decode cM_ofBand 4 = .ok (.ifCond .ne 13, 3) := by decide +kernel
theorem dM_ofBand_7 : decode cM_ofBand 7 = .ok (.lload_n 3, 1) := by decide +kernel
theorem dM_ofBand_8 : decode cM_ofBand 8 = .ok (.lconst 0, 1) := by decide +kernel
theorem dM_ofBand_9 : decode cM_ofBand 9 = .ok (.lcmp, 1) := by decide +kernel
theorem dM_ofBand_10 : decode cM_ofBand 10 = .ok (.ifCond .ne 7, 3) := by decide +kernel
theorem dM_ofBand_13 : decode cM_ofBand 13 = .ok (.iconst 1, 1) := by decide +kernel
theorem dM_ofBand_14 : decode cM_ofBand 14 = .ok (.goto 4, 3) := by decide +kernel
theorem dM_ofBand_17 : decode cM_ofBand 17 = .ok (.iconst 0, 1) := by decide +kernel
theorem dM_ofBand_18 : decode cM_ofBand 18 = .ok (.putfield 233, 3) := by decide +kernel
theorem dM_ofBand_21 : decode cM_ofBand 21 = .ok (.aload_n 0, 1) := by decide +kernel
theorem dM_ofBand_22 : decode cM_ofBand 22 = .ok (.iconst 1, 1) := by decide +kernel
theorem dM_ofBand_23 : decode cM_ofBand 23 = .ok (.putfield 236, 3) := by decide +kernel
theorem dM_ofBand_26 : decode cM_ofBand 26 = .ok (.aload_n 0, 1) := by decide +kernel
theorem dM_ofBand_27 : decode cM_ofBand 27 = .ok (.lconst 0, 1) := by decide +kernel
theorem dM_ofBand_28 : decode cM_ofBand 28 = .ok (.putfield 239, 3) := by decide +kernel
theorem dM_ofBand_31 : decode cM_ofBand 31 = .ok (.aload_n 0, 1) := by decide +kernel
theorem dM_ofBand_32 : decode cM_ofBand 32 = .ok (.lconst 1, 1) := by decide +kernel
theorem dM_ofBand_33 : decode cM_ofBand 33 = .ok (.putfield 242, 3) := by decide +kernel
theorem dM_ofBand_36 : decode cM_ofBand 36 = .ok (.aload_n 0, 1) := by decide +kernel
theorem dM_ofBand_37 : decode cM_ofBand 37 = .ok (.getfield 233, 3) := by decide +kernel
theorem dM_ofBand_40 : decode cM_ofBand 40 = .ok (.ifCond .ne 30, 3) := by decide +kernel
theorem dM_ofBand_43 : decode cM_ofBand 43 = .ok (.aload_n 0, 1) := by decide +kernel
theorem dM_ofBand_44 : decode cM_ofBand 44 = .ok (.getfield 73, 3) := by decide +kernel
theorem dM_ofBand_47 : decode cM_ofBand 47 = .ok (.ifCond .eq 23, 3) := by decide +kernel
theorem dM_ofBand_50 : decode cM_ofBand 50 = .ok (.lload_n 1, 1) := by decide +kernel
theorem dM_ofBand_51 : decode cM_ofBand 51 = .ok (.aload_n 0, 1) := by decide +kernel
theorem dM_ofBand_52 : decode cM_ofBand 52 = .ok (.getfield 57, 3) := by decide +kernel
theorem dM_ofBand_55 : decode cM_ofBand 55 = .ok (.iconst 0, 1) := by decide +kernel
theorem dM_ofBand_56 : decode cM_ofBand 56 = .ok (.laload, 1) := by decide +kernel
theorem dM_ofBand_57 : decode cM_ofBand 57 = .ok (.lmul, 1) := by decide +kernel
theorem dM_ofBand_58 : decode cM_ofBand 58 = .ok (.lload_n 3, 1) := by decide +kernel
theorem dM_ofBand_59 : decode cM_ofBand 59 = .ok (.aload_n 0, 1) := by decide +kernel
theorem dM_ofBand_60 : decode cM_ofBand 60 = .ok (.getfield 54, 3) := by decide +kernel
theorem dM_ofBand_63 : decode cM_ofBand 63 = .ok (.iconst 0, 1) := by decide +kernel
theorem dM_ofBand_64 : decode cM_ofBand 64 = .ok (.laload, 1) := by decide +kernel
theorem dM_ofBand_65 : decode cM_ofBand 65 = .ok (.lmul, 1) := by decide +kernel
theorem dM_ofBand_66 : decode cM_ofBand 66 = .ok (.lcmp, 1) := by decide +kernel
theorem dM_ofBand_67 : decode cM_ofBand 67 = .ok (.ifCond .eq 4, 3) := by decide +kernel
theorem dM_ofBand_70 : decode cM_ofBand 70 = .ok (.return_, 1) := by decide +kernel
theorem dM_ofBand_71 : decode cM_ofBand 71 = .ok (.aload_n 0, 1) := by decide +kernel
theorem dM_ofBand_72 : decode cM_ofBand 72 = .ok (.invokevirtual 102, 3) := by decide +kernel
theorem dM_ofBand_75 : decode cM_ofBand 75 = .ok (.pop, 1) := by decide +kernel
theorem dM_ofBand_76 : decode cM_ofBand 76 = .ok (.aload_n 0, 1) := by decide +kernel
theorem dM_ofBand_77 : decode cM_ofBand 77 = .ok (.getfield 54, 3) := by decide +kernel
theorem dM_ofBand_80 : decode cM_ofBand 80 = .ok (.iconst 0, 1) := by decide +kernel
theorem dM_ofBand_81 : decode cM_ofBand 81 = .ok (.laload, 1) := by decide +kernel
theorem dM_ofBand_82 : decode cM_ofBand 82 = .ok (.lconst 0, 1) := by decide +kernel
theorem dM_ofBand_83 : decode cM_ofBand 83 = .ok (.lcmp, 1) := by decide +kernel
theorem dM_ofBand_84 : decode cM_ofBand 84 = .ok (.ifCond .ne 7, 3) := by decide +kernel
theorem dM_ofBand_87 : decode cM_ofBand 87 = .ok (.lload_n 3, 1) := by decide +kernel
theorem dM_ofBand_88 : decode cM_ofBand 88 = .ok (.goto 4, 3) := by decide +kernel
theorem dM_ofBand_91 : decode cM_ofBand 91 = .ok (.lload_n 1, 1) := by decide +kernel
theorem dM_ofBand_92 : decode cM_ofBand 92 = .ok (.lstore 5, 2) := by decide +kernel
theorem dM_ofBand_94 : decode cM_ofBand 94 = .ok (.lload 5, 2) := by decide +kernel
theorem dM_ofBand_96 : decode cM_ofBand 96 = .ok (.lconst 0, 1) := by decide +kernel
theorem dM_ofBand_97 : decode cM_ofBand 97 = .ok (.lcmp, 1) := by decide +kernel
theorem dM_ofBand_98 : decode cM_ofBand 98 = .ok (.ifCond .le 7, 3) := by decide +kernel
theorem dM_ofBand_101 : decode cM_ofBand 101 = .ok (.iconst 1, 1) := by decide +kernel
theorem dM_ofBand_102 : decode cM_ofBand 102 = .ok (.goto 4, 3) := by decide +kernel
theorem dM_ofBand_105 : decode cM_ofBand 105 = .ok (.iconst 0, 1) := by decide +kernel
theorem dM_ofBand_106 : decode cM_ofBand 106 = .ok (.istore 7, 2) := by decide +kernel
theorem dM_ofBand_108 : decode cM_ofBand 108 = .ok (.aload_n 0, 1) := by decide +kernel
theorem dM_ofBand_109 : decode cM_ofBand 109 = .ok (.iload 7, 2) := by decide +kernel
theorem dM_ofBand_111 : decode cM_ofBand 111 = .ok (.ifCond .eq 20, 3) := by decide +kernel
theorem dM_ofBand_114 : decode cM_ofBand 114 = .ok (.aload_n 0, 1) := by decide +kernel
theorem dM_ofBand_115 : decode cM_ofBand 115 = .ok (.getfield 123, 3) := by decide +kernel
theorem dM_ofBand_118 : decode cM_ofBand 118 = .ok (.lconst 0, 1) := by decide +kernel
theorem dM_ofBand_119 : decode cM_ofBand 119 = .ok (.lcmp, 1) := by decide +kernel
theorem dM_ofBand_120 : decode cM_ofBand 120 = .ok (.ifCond .le 7, 3) := by decide +kernel
theorem dM_ofBand_123 : decode cM_ofBand 123 = .ok (.iconst 1, 1) := by decide +kernel
theorem dM_ofBand_124 : decode cM_ofBand 124 = .ok (.goto 21, 3) := by decide +kernel
theorem dM_ofBand_127 : decode cM_ofBand 127 = .ok (.iconst 0, 1) := by decide +kernel
theorem dM_ofBand_128 : decode cM_ofBand 128 = .ok (.goto 17, 3) := by decide +kernel
theorem dM_ofBand_131 : decode cM_ofBand 131 = .ok (.aload_n 0, 1) := by decide +kernel
theorem dM_ofBand_132 : decode cM_ofBand 132 = .ok (.getfield 126, 3) := by decide +kernel
theorem dM_ofBand_135 : decode cM_ofBand 135 = .ok (.lconst 0, 1) := by decide +kernel
theorem dM_ofBand_136 : decode cM_ofBand 136 = .ok (.lcmp, 1) := by decide +kernel
theorem dM_ofBand_137 : decode cM_ofBand 137 = .ok (.ifCond .le 7, 3) := by decide +kernel
theorem dM_ofBand_140 : decode cM_ofBand 140 = .ok (.iconst 1, 1) := by decide +kernel
theorem dM_ofBand_141 : decode cM_ofBand 141 = .ok (.goto 4, 3) := by decide +kernel
theorem dM_ofBand_144 : decode cM_ofBand 144 = .ok (.iconst 0, 1) := by decide +kernel
theorem dM_ofBand_145 : decode cM_ofBand 145 = .ok (.putfield 233, 3) := by decide +kernel
theorem dM_ofBand_148 : decode cM_ofBand 148 = .ok (.aload_n 0, 1) := by decide +kernel
theorem dM_ofBand_149 : decode cM_ofBand 149 = .ok (.iload 7, 2) := by decide +kernel
theorem dM_ofBand_151 : decode cM_ofBand 151 = .ok (.ifCond .eq 18, 3) := by decide +kernel
theorem dM_ofBand_154 : decode cM_ofBand 154 = .ok (.aload_n 0, 1) := by decide +kernel
theorem dM_ofBand_155 : decode cM_ofBand 155 = .ok (.getfield 143, 3) := by decide +kernel
theorem dM_ofBand_158 : decode cM_ofBand 158 = .ok (.ifCond .ne 7, 3) := by decide +kernel
theorem dM_ofBand_161 : decode cM_ofBand 161 = .ok (.iconst 1, 1) := by decide +kernel
theorem dM_ofBand_162 : decode cM_ofBand 162 = .ok (.goto 19, 3) := by decide +kernel
theorem dM_ofBand_165 : decode cM_ofBand 165 = .ok (.iconst 0, 1) := by decide +kernel
theorem dM_ofBand_166 : decode cM_ofBand 166 = .ok (.goto 15, 3) := by decide +kernel
theorem dM_ofBand_169 : decode cM_ofBand 169 = .ok (.aload_n 0, 1) := by decide +kernel
theorem dM_ofBand_170 : decode cM_ofBand 170 = .ok (.getfield 136, 3) := by decide +kernel
theorem dM_ofBand_173 : decode cM_ofBand 173 = .ok (.ifCond .ne 7, 3) := by decide +kernel
theorem dM_ofBand_176 : decode cM_ofBand 176 = .ok (.iconst 1, 1) := by decide +kernel
theorem dM_ofBand_177 : decode cM_ofBand 177 = .ok (.goto 4, 3) := by decide +kernel
theorem dM_ofBand_180 : decode cM_ofBand 180 = .ok (.iconst 0, 1) := by decide +kernel
theorem dM_ofBand_181 : decode cM_ofBand 181 = .ok (.putfield 236, 3) := by decide +kernel
theorem dM_ofBand_184 : decode cM_ofBand 184 = .ok (.aload_n 0, 1) := by decide +kernel
theorem dM_ofBand_185 : decode cM_ofBand 185 = .ok (.lload 5, 2) := by decide +kernel
theorem dM_ofBand_187 : decode cM_ofBand 187 = .ok (.iload 7, 2) := by decide +kernel
theorem dM_ofBand_189 : decode cM_ofBand 189 = .ok (.ifCond .eq 10, 3) := by decide +kernel
theorem dM_ofBand_192 : decode cM_ofBand 192 = .ok (.aload_n 0, 1) := by decide +kernel
theorem dM_ofBand_193 : decode cM_ofBand 193 = .ok (.getfield 140, 3) := by decide +kernel
theorem dM_ofBand_196 : decode cM_ofBand 196 = .ok (.goto 7, 3) := by decide +kernel
theorem dM_ofBand_199 : decode cM_ofBand 199 = .ok (.aload_n 0, 1) := by decide +kernel
theorem dM_ofBand_200 : decode cM_ofBand 200 = .ok (.getfield 129, 3) := by decide +kernel
theorem dM_ofBand_203 : decode cM_ofBand 203 = .ok (.lmul, 1) := by decide +kernel
theorem dM_ofBand_204 : decode cM_ofBand 204 = .ok (.putfield 239, 3) := by decide +kernel
theorem dM_ofBand_207 : decode cM_ofBand 207 = .ok (.aload_n 0, 1) := by decide +kernel
theorem dM_ofBand_208 : decode cM_ofBand 208 = .ok (.iload 7, 2) := by decide +kernel
theorem dM_ofBand_210 : decode cM_ofBand 210 = .ok (.ifCond .eq 10, 3) := by decide +kernel
theorem dM_ofBand_213 : decode cM_ofBand 213 = .ok (.aload_n 0, 1) := by decide +kernel
theorem dM_ofBand_214 : decode cM_ofBand 214 = .ok (.getfield 123, 3) := by decide +kernel
theorem dM_ofBand_217 : decode cM_ofBand 217 = .ok (.goto 7, 3) := by decide +kernel
theorem dM_ofBand_220 : decode cM_ofBand 220 = .ok (.aload_n 0, 1) := by decide +kernel
theorem dM_ofBand_221 : decode cM_ofBand 221 = .ok (.getfield 126, 3) := by decide +kernel
theorem dM_ofBand_224 : decode cM_ofBand 224 = .ok (.putfield 242, 3) := by decide +kernel
theorem dM_ofBand_227 : decode cM_ofBand 227 = .ok (.return_, 1) := by decide +kernel
theorem dM_ofCorners_0 : decode cM_ofCorners 0 = .ok (.iconst 0, 1) := by decide +kernel
theorem dM_ofCorners_1 : decode cM_ofCorners 1 = .ok (.istore 5, 2) := by decide +kernel
theorem dM_ofCorners_3 : decode cM_ofCorners 3 = .ok (.aload_n 0, 1) := by decide +kernel
theorem dM_ofCorners_4 : decode cM_ofCorners 4 = .ok (.iconst 1, 1) := by decide +kernel
theorem dM_ofCorners_5 : decode cM_ofCorners 5 = .ok (.putfield 233, 3) := by decide +kernel
theorem dM_ofCorners_8 : decode cM_ofCorners 8 = .ok (.iconst 0, 1) := by decide +kernel
theorem dM_ofCorners_9 : decode cM_ofCorners 9 = .ok (.istore 6, 2) := by decide +kernel
theorem dM_ofCorners_11 : decode cM_ofCorners 11 = .ok (.iload 6, 2) := by decide +kernel
theorem dM_ofCorners_13 : decode cM_ofCorners 13 = .ok (.iconst 2, 1) := by decide +kernel
theorem dM_ofCorners_14 : decode cM_ofCorners 14 = .ok (.aload_n 0, 1) := by decide +kernel
theorem dM_ofCorners_15 : decode cM_ofCorners 15 = .ok (.getfield 73, 3) := by decide +kernel
theorem dM_ofCorners_18 : decode cM_ofCorners 18 = .ok (.imul, 1) := by decide +kernel
theorem dM_ofCorners_19 : decode cM_ofCorners 19 = .ok (.if_icmp .ge 56, 3) := by decide +kernel
theorem dM_ofCorners_22 : decode cM_ofCorners 22 = .ok (.aload_n 0, 1) := by decide +kernel
theorem dM_ofCorners_23 : decode cM_ofCorners 23 = .ok (.iload 6, 2) := by decide +kernel
theorem dM_ofCorners_25 : decode cM_ofCorners 25 = .ok (.iconst 2, 1) := by decide +kernel
theorem dM_ofCorners_26 : decode cM_ofCorners 26 = .ok (.idiv, 1) := by decide +kernel
theorem dM_ofCorners_27 : decode cM_ofCorners 27 = .ok (.iload 6, 2) := by decide +kernel
theorem dM_ofCorners_29 : decode cM_ofCorners 29 = .ok (.iconst 2, 1) := by decide +kernel
theorem dM_ofCorners_30 : decode cM_ofCorners 30 = .ok (.irem, 1) := by decide +kernel
theorem dM_ofCorners_31 : decode cM_ofCorners 31 = .ok (.iconst 1, 1) := by decide +kernel
theorem dM_ofCorners_32 : decode cM_ofCorners 32 = .ok (.if_icmp .ne 7, 3) := by decide +kernel
theorem dM_ofCorners_35 : decode cM_ofCorners 35 = .ok (.iconst 1, 1) := by decide +kernel
theorem dM_ofCorners_36 : decode cM_ofCorners 36 = .ok (.goto 4, 3) := by decide +kernel
theorem dM_ofCorners_39 : decode cM_ofCorners 39 = .ok (.iconst 0, 1) := by decide +kernel
theorem dM_ofCorners_40 : decode cM_ofCorners 40 = .ok (.invokevirtual 113, 3) := by decide +kernel
theorem dM_ofCorners_43 : decode cM_ofCorners 43 = .ok (.ifCond .eq 26, 3) := by decide +kernel
theorem dM_ofCorners_46 : decode cM_ofCorners 46 = .ok (.lload_n 1, 1) := by decide +kernel
theorem dM_ofCorners_47 : decode cM_ofCorners 47 = .ok (.aload_n 0, 1) := by decide +kernel
theorem dM_ofCorners_48 : decode cM_ofCorners 48 = .ok (.getfield 92, 3) := by decide +kernel
theorem dM_ofCorners_51 : decode cM_ofCorners 51 = .ok (.lmul, 1) := by decide +kernel
theorem dM_ofCorners_52 : decode cM_ofCorners 52 = .ok (.lload_n 3, 1) := by decide +kernel
theorem dM_ofCorners_53 : decode cM_ofCorners 53 = .ok (.aload_n 0, 1) := by decide +kernel
theorem dM_ofCorners_54 : decode cM_ofCorners 54 = .ok (.getfield 95, 3) := by decide +kernel
theorem dM_ofCorners_57 : decode cM_ofCorners 57 = .ok (.lmul, 1) := by decide +kernel
theorem dM_ofCorners_58 : decode cM_ofCorners 58 = .ok (.ladd, 1) := by decide +kernel
theorem dM_ofCorners_59 : decode cM_ofCorners 59 = .ok (.lconst 0, 1) := by decide +kernel
theorem dM_ofCorners_60 : decode cM_ofCorners 60 = .ok (.lcmp, 1) := by decide +kernel
theorem dM_ofCorners_61 : decode cM_ofCorners 61 = .ok (.ifCond .ge 8, 3) := by decide +kernel
theorem dM_ofCorners_64 : decode cM_ofCorners 64 = .ok (.aload_n 0, 1) := by decide +kernel
theorem dM_ofCorners_65 : decode cM_ofCorners 65 = .ok (.iconst 0, 1) := by decide +kernel
theorem dM_ofCorners_66 : decode cM_ofCorners 66 = .ok (.putfield 233, 3) := by decide +kernel
theorem dM_ofCorners_69 : decode cM_ofCorners 69 = .ok (.iinc 6 1, 3) := by decide +kernel
theorem dM_ofCorners_72 : decode cM_ofCorners 72 = .ok (.goto (-61), 3) := by decide +kernel
theorem dM_ofCorners_75 : decode cM_ofCorners 75 = .ok (.lconst 0, 1) := by decide +kernel
theorem dM_ofCorners_76 : decode cM_ofCorners 76 = .ok (.lstore 6, 2) := by decide +kernel
theorem dM_ofCorners_78 : decode cM_ofCorners 78 = .ok (.iconst 0, 1) := by decide +kernel
theorem dM_ofCorners_79 : decode cM_ofCorners 79 = .ok (.istore 8, 2) := by decide +kernel
theorem dM_ofCorners_81 : decode cM_ofCorners 81 = .ok (.iload 8, 2) := by decide +kernel
theorem dM_ofCorners_83 : decode cM_ofCorners 83 = .ok (.aload_n 0, 1) := by decide +kernel
theorem dM_ofCorners_84 : decode cM_ofCorners 84 = .ok (.getfield 73, 3) := by decide +kernel
theorem dM_ofCorners_87 : decode cM_ofCorners 87 = .ok (.if_icmp .ge 126, 3) := by decide +kernel
theorem dM_ofCorners_90 : decode cM_ofCorners 90 = .ok (.iload 8, 2) := by decide +kernel
theorem dM_ofCorners_92 : decode cM_ofCorners 92 = .ok (.iconst 1, 1) := by decide +kernel
theorem dM_ofCorners_93 : decode cM_ofCorners 93 = .ok (.iadd, 1) := by decide +kernel
theorem dM_ofCorners_94 : decode cM_ofCorners 94 = .ok (.istore 9, 2) := by decide +kernel
theorem dM_ofCorners_96 : decode cM_ofCorners 96 = .ok (.iload 9, 2) := by decide +kernel
theorem dM_ofCorners_98 : decode cM_ofCorners 98 = .ok (.aload_n 0, 1) := by decide +kernel
theorem dM_ofCorners_99 : decode cM_ofCorners 99 = .ok (.getfield 73, 3) := by decide +kernel
theorem dM_ofCorners_102 : decode cM_ofCorners 102 = .ok (.if_icmp .ge 105, 3) := by decide +kernel
theorem dM_ofCorners_105 : decode cM_ofCorners 105 = .ok (.aload_n 0, 1) := by decide +kernel
theorem dM_ofCorners_106 : decode cM_ofCorners 106 = .ok (.iload 8, 2) := by decide +kernel
theorem dM_ofCorners_108 : decode cM_ofCorners 108 = .ok (.iload 9, 2) := by decide +kernel
theorem dM_ofCorners_110 : decode cM_ofCorners 110 = .ok (.invokevirtual 105, 3) := by decide +kernel
theorem dM_ofCorners_113 : decode cM_ofCorners 113 = .ok (.ifCond .ne 6, 3) := by decide +kernel
theorem dM_ofCorners_116 : decode cM_ofCorners 116 = .ok (.goto 85, 3) := by decide +kernel
theorem dM_ofCorners_119 : decode cM_ofCorners 119 = .ok (.lload_n 1, 1) := by decide +kernel
theorem dM_ofCorners_120 : decode cM_ofCorners 120 = .ok (.aload_n 0, 1) := by decide +kernel
theorem dM_ofCorners_121 : decode cM_ofCorners 121 = .ok (.getfield 86, 3) := by decide +kernel
theorem dM_ofCorners_124 : decode cM_ofCorners 124 = .ok (.lmul, 1) := by decide +kernel
theorem dM_ofCorners_125 : decode cM_ofCorners 125 = .ok (.lload_n 3, 1) := by decide +kernel
theorem dM_ofCorners_126 : decode cM_ofCorners 126 = .ok (.aload_n 0, 1) := by decide +kernel
theorem dM_ofCorners_127 : decode cM_ofCorners 127 = .ok (.getfield 89, 3) := by decide +kernel
theorem dM_ofCorners_130 : decode cM_ofCorners 130 = .ok (.lmul, 1) := by decide +kernel
theorem dM_ofCorners_131 : decode cM_ofCorners 131 = .ok (.ladd, 1) := by decide +kernel
theorem dM_ofCorners_132 : decode cM_ofCorners 132 = .ok (.lstore 10, 2) := by decide +kernel
theorem dM_ofCorners_134 : decode cM_ofCorners 134 = .ok (.iload 5, 2) := by decide +kernel
theorem dM_ofCorners_136 : decode cM_ofCorners 136 = .ok (.ifCond .eq 23, 3) := by decide +kernel
theorem dM_ofCorners_139 : decode cM_ofCorners 139 = .ok (.lload 10, 2) := by decide +kernel
theorem dM_ofCorners_141 : decode cM_ofCorners 141 = .ok (.aload_n 0, 1) := by decide +kernel
theorem dM_ofCorners_142 : decode cM_ofCorners 142 = .ok (.getfield 82, 3) := by decide +kernel
theorem dM_ofCorners_145 : decode cM_ofCorners 145 = .ok (.aload_n 0, 1) := by decide +kernel
theorem dM_ofCorners_146 : decode cM_ofCorners 146 = .ok (.getfield 239, 3) := by decide +kernel
theorem dM_ofCorners_149 : decode cM_ofCorners 149 = .ok (.aload_n 0, 1) := by decide +kernel
theorem dM_ofCorners_150 : decode cM_ofCorners 150 = .ok (.getfield 242, 3) := by decide +kernel
theorem dM_ofCorners_153 : decode cM_ofCorners 153 = .ok (.invokestatic 132, 3) := by decide +kernel
theorem dM_ofCorners_156 : decode cM_ofCorners 156 = .ok (.goto 4, 3) := by decide +kernel
theorem dM_ofCorners_159 : decode cM_ofCorners 159 = .ok (.iconst (-1), 1) := by decide +kernel
theorem dM_ofCorners_160 : decode cM_ofCorners 160 = .ok (.istore 12, 2) := by decide +kernel
theorem dM_ofCorners_162 : decode cM_ofCorners 162 = .ok (.iconst 1, 1) := by decide +kernel
theorem dM_ofCorners_163 : decode cM_ofCorners 163 = .ok (.istore 5, 2) := by decide +kernel
theorem dM_ofCorners_165 : decode cM_ofCorners 165 = .ok (.iload 12, 2) := by decide +kernel
theorem dM_ofCorners_167 : decode cM_ofCorners 167 = .ok (.ifCond .ge 20, 3) := by decide +kernel
theorem dM_ofCorners_170 : decode cM_ofCorners 170 = .ok (.aload_n 0, 1) := by decide +kernel
theorem dM_ofCorners_171 : decode cM_ofCorners 171 = .ok (.lload 10, 2) := by decide +kernel
theorem dM_ofCorners_173 : decode cM_ofCorners 173 = .ok (.putfield 239, 3) := by decide +kernel
theorem dM_ofCorners_176 : decode cM_ofCorners 176 = .ok (.aload_n 0, 1) := by decide +kernel
theorem dM_ofCorners_177 : decode cM_ofCorners 177 = .ok (.aload_n 0, 1) := by decide +kernel
theorem dM_ofCorners_178 : decode cM_ofCorners 178 = .ok (.getfield 82, 3) := by decide +kernel
theorem dM_ofCorners_181 : decode cM_ofCorners 181 = .ok (.putfield 242, 3) := by decide +kernel
theorem dM_ofCorners_184 : decode cM_ofCorners 184 = .ok (.lconst 0, 1) := by decide +kernel
theorem dM_ofCorners_185 : decode cM_ofCorners 185 = .ok (.lstore 6, 2) := by decide +kernel
theorem dM_ofCorners_187 : decode cM_ofCorners 187 = .ok (.iload 12, 2) := by decide +kernel
theorem dM_ofCorners_189 : decode cM_ofCorners 189 = .ok (.ifCond .gt 12, 3) := by decide +kernel
theorem dM_ofCorners_192 : decode cM_ofCorners 192 = .ok (.lload 6, 2) := by decide +kernel
theorem dM_ofCorners_194 : decode cM_ofCorners 194 = .ok (.aload_n 0, 1) := by decide +kernel
theorem dM_ofCorners_195 : decode cM_ofCorners 195 = .ok (.invokevirtual 109, 3) := by decide +kernel
theorem dM_ofCorners_198 : decode cM_ofCorners 198 = .ok (.lor, 1) := by decide +kernel
theorem dM_ofCorners_199 : decode cM_ofCorners 199 = .ok (.lstore 6, 2) := by decide +kernel
theorem dM_ofCorners_201 : decode cM_ofCorners 201 = .ok (.iinc 9 1, 3) := by decide +kernel
theorem dM_ofCorners_204 : decode cM_ofCorners 204 = .ok (.goto (-108), 3) := by decide +kernel
theorem dM_ofCorners_207 : decode cM_ofCorners 207 = .ok (.iinc 8 1, 3) := by decide +kernel
theorem dM_ofCorners_210 : decode cM_ofCorners 210 = .ok (.goto (-129), 3) := by decide +kernel
theorem dM_ofCorners_213 : decode cM_ofCorners 213 = .ok (.iconst 0, 1) := by decide +kernel
theorem dM_ofCorners_214 : decode cM_ofCorners 214 = .ok (.istore 8, 2) := by decide +kernel
theorem dM_ofCorners_216 : decode cM_ofCorners 216 = .ok (.iload 8, 2) := by decide +kernel
theorem dM_ofCorners_218 : decode cM_ofCorners 218 = .ok (.iconst 2, 1) := by decide +kernel
theorem dM_ofCorners_219 : decode cM_ofCorners 219 = .ok (.aload_n 0, 1) := by decide +kernel
theorem dM_ofCorners_220 : decode cM_ofCorners 220 = .ok (.getfield 73, 3) := by decide +kernel
theorem dM_ofCorners_223 : decode cM_ofCorners 223 = .ok (.imul, 1) := by decide +kernel
theorem dM_ofCorners_224 : decode cM_ofCorners 224 = .ok (.if_icmp .ge 60, 3) := by decide +kernel
theorem dM_ofCorners_227 : decode cM_ofCorners 227 = .ok (.aload_n 0, 1) := by decide +kernel
theorem dM_ofCorners_228 : decode cM_ofCorners 228 = .ok (.iload 8, 2) := by decide +kernel
theorem dM_ofCorners_230 : decode cM_ofCorners 230 = .ok (.iconst 2, 1) := by decide +kernel
theorem dM_ofCorners_231 : decode cM_ofCorners 231 = .ok (.idiv, 1) := by decide +kernel
theorem dM_ofCorners_232 : decode cM_ofCorners 232 = .ok (.iload 8, 2) := by decide +kernel
theorem dM_ofCorners_234 : decode cM_ofCorners 234 = .ok (.iconst 2, 1) := by decide +kernel
theorem dM_ofCorners_235 : decode cM_ofCorners 235 = .ok (.irem, 1) := by decide +kernel
theorem dM_ofCorners_236 : decode cM_ofCorners 236 = .ok (.iconst 1, 1) := by decide +kernel
theorem dM_ofCorners_237 : decode cM_ofCorners 237 = .ok (.if_icmp .ne 7, 3) := by decide +kernel
theorem dM_ofCorners_240 : decode cM_ofCorners 240 = .ok (.iconst 1, 1) := by decide +kernel
theorem dM_ofCorners_241 : decode cM_ofCorners 241 = .ok (.goto 4, 3) := by decide +kernel
theorem dM_ofCorners_244 : decode cM_ofCorners 244 = .ok (.iconst 0, 1) := by decide +kernel
theorem dM_ofCorners_245 : decode cM_ofCorners 245 = .ok (.invokevirtual 113, 3) := by decide +kernel
theorem dM_ofCorners_248 : decode cM_ofCorners 248 = .ok (.ifCond .eq 30, 3) := by decide +kernel
theorem dM_ofCorners_251 : decode cM_ofCorners 251 = .ok (.lload_n 1, 1) := by decide +kernel
theorem dM_ofCorners_252 : decode cM_ofCorners 252 = .ok (.aload_n 0, 1) := by decide +kernel
theorem dM_ofCorners_253 : decode cM_ofCorners 253 = .ok (.getfield 92, 3) := by decide +kernel
theorem dM_ofCorners_256 : decode cM_ofCorners 256 = .ok (.lmul, 1) := by decide +kernel
theorem dM_ofCorners_257 : decode cM_ofCorners 257 = .ok (.lload_n 3, 1) := by decide +kernel
theorem dM_ofCorners_258 : decode cM_ofCorners 258 = .ok (.aload_n 0, 1) := by decide +kernel
theorem dM_ofCorners_259 : decode cM_ofCorners 259 = .ok (.getfield 95, 3) := by decide +kernel
theorem dM_ofCorners_262 : decode cM_ofCorners 262 = .ok (.lmul, 1) := by decide +kernel
theorem dM_ofCorners_263 : decode cM_ofCorners 263 = .ok (.ladd, 1) := by decide +kernel
theorem dM_ofCorners_264 : decode cM_ofCorners 264 = .ok (.lconst 0, 1) := by decide +kernel
theorem dM_ofCorners_265 : decode cM_ofCorners 265 = .ok (.lcmp, 1) := by decide +kernel
theorem dM_ofCorners_266 : decode cM_ofCorners 266 = .ok (.ifCond .ne 12, 3) := by decide +kernel
theorem dM_ofCorners_269 : decode cM_ofCorners 269 = .ok (.lload 6, 2) := by decide +kernel
theorem dM_ofCorners_271 : decode cM_ofCorners 271 = .ok (.aload_n 0, 1) := by decide +kernel
theorem dM_ofCorners_272 : decode cM_ofCorners 272 = .ok (.invokevirtual 117, 3) := by decide +kernel
theorem dM_ofCorners_275 : decode cM_ofCorners 275 = .ok (.lor, 1) := by decide +kernel
theorem dM_ofCorners_276 : decode cM_ofCorners 276 = .ok (.lstore 6, 2) := by decide +kernel
theorem dM_ofCorners_278 : decode cM_ofCorners 278 = .ok (.iinc 8 1, 3) := by decide +kernel
theorem dM_ofCorners_281 : decode cM_ofCorners 281 = .ok (.goto (-65), 3) := by decide +kernel
theorem dM_ofCorners_284 : decode cM_ofCorners 284 = .ok (.aload_n 0, 1) := by decide +kernel
theorem dM_ofCorners_285 : decode cM_ofCorners 285 = .ok (.lload 6, 2) := by decide +kernel
theorem dM_ofCorners_287 : decode cM_ofCorners 287 = .ok (.aload_n 0, 1) := by decide +kernel
theorem dM_ofCorners_288 : decode cM_ofCorners 288 = .ok (.invokevirtual 120, 3) := by decide +kernel
theorem dM_ofCorners_291 : decode cM_ofCorners 291 = .ok (.lcmp, 1) := by decide +kernel
theorem dM_ofCorners_292 : decode cM_ofCorners 292 = .ok (.ifCond .ne 7, 3) := by decide +kernel
theorem dM_ofCorners_295 : decode cM_ofCorners 295 = .ok (.iconst 1, 1) := by decide +kernel
theorem dM_ofCorners_296 : decode cM_ofCorners 296 = .ok (.goto 4, 3) := by decide +kernel
theorem dM_ofCorners_299 : decode cM_ofCorners 299 = .ok (.iconst 0, 1) := by decide +kernel
theorem dM_ofCorners_300 : decode cM_ofCorners 300 = .ok (.putfield 236, 3) := by decide +kernel
theorem dM_ofCorners_303 : decode cM_ofCorners 303 = .ok (.return_, 1) := by decide +kernel
theorem dM_least_0 : decode cM_least 0 = .ok (.aload_n 0, 1) := by decide +kernel
theorem dM_least_1 : decode cM_least 1 = .ok (.aload_n 0, 1) := by decide +kernel
theorem dM_least_2 : decode cM_least 2 = .ok (.getfield 220, 3) := by decide +kernel
theorem dM_least_5 : decode cM_least 5 = .ok (.iconst 1, 1) := by decide +kernel
theorem dM_least_6 : decode cM_least 6 = .ok (.if_icmp .ge 7, 3) := by decide +kernel
theorem dM_least_9 : decode cM_least 9 = .ok (.iconst 1, 1) := by decide +kernel
theorem dM_least_10 : decode cM_least 10 = .ok (.goto 32, 3) := by decide +kernel
theorem dM_least_13 : decode cM_least 13 = .ok (.iload_n 1, 1) := by decide +kernel
theorem dM_least_14 : decode cM_least 14 = .ok (.bipush (-100), 2) := by decide +kernel
theorem dM_least_16 : decode cM_least 16 = .ok (.if_icmp .lt 21, 3) := by decide +kernel
theorem dM_least_19 : decode cM_least 19 = .ok (.iload_n 1, 1) := by decide +kernel
theorem dM_least_20 : decode cM_least 20 = .ok (.bipush 100, 2) := by decide +kernel
theorem dM_least_22 : decode cM_least 22 = .ok (.if_icmp .gt 15, 3) := by decide +kernel
theorem dM_least_25 : decode cM_least 25 = .ok (.iload_n 2, 1) := by decide +kernel
theorem dM_least_26 : decode cM_least 26 = .ok (.bipush (-100), 2) := by decide +kernel
theorem dM_least_28 : decode cM_least 28 = .ok (.if_icmp .lt 9, 3) := by decide +kernel
theorem dM_least_31 : decode cM_least 31 = .ok (.iload_n 2, 1) := by decide +kernel
theorem dM_least_32 : decode cM_least 32 = .ok (.bipush 100, 2) := by decide +kernel
theorem dM_least_34 : decode cM_least 34 = .ok (.if_icmp .le 7, 3) := by decide +kernel
theorem dM_least_37 : decode cM_least 37 = .ok (.iconst 2, 1) := by decide +kernel
theorem dM_least_38 : decode cM_least 38 = .ok (.goto 4, 3) := by decide +kernel
theorem dM_least_41 : decode cM_least 41 = .ok (.iconst 0, 1) := by decide +kernel
theorem dM_least_42 : decode cM_least 42 = .ok (.putfield 66, 3) := by decide +kernel
theorem dM_least_45 : decode cM_least 45 = .ok (.aload_n 0, 1) := by decide +kernel
theorem dM_least_46 : decode cM_least 46 = .ok (.getfield 66, 3) := by decide +kernel
theorem dM_least_49 : decode cM_least 49 = .ok (.ifCond .le 5, 3) := by decide +kernel
theorem dM_least_52 : decode cM_least 52 = .ok (.iconst 0, 1) := by decide +kernel
theorem dM_least_53 : decode cM_least 53 = .ok (.ireturn, 1) := by decide +kernel
theorem dM_least_54 : decode cM_least 54 = .ok (.aload_n 0, 1) := by decide +kernel
theorem dM_least_55 : decode cM_least 55 = .ok (.iconst 3, 1) := by decide +kernel
theorem dM_least_56 : decode cM_least 56 = .ok (.putfield 245, 3) := by decide +kernel
theorem dM_least_59 : decode cM_least 59 = .ok (.aload_n 0, 1) := by decide +kernel
theorem dM_least_60 : decode cM_least 60 = .ok (.iconst 0, 1) := by decide +kernel
theorem dM_least_61 : decode cM_least 61 = .ok (.putfield 248, 3) := by decide +kernel
theorem dM_least_64 : decode cM_least 64 = .ok (.iconst 0, 1) := by decide +kernel
theorem dM_least_65 : decode cM_least 65 = .ok (.istore_n 3, 1) := by decide +kernel
theorem dM_least_66 : decode cM_least 66 = .ok (.iload_n 3, 1) := by decide +kernel
theorem dM_least_67 : decode cM_least 67 = .ok (.aload_n 0, 1) := by decide +kernel
theorem dM_least_68 : decode cM_least 68 = .ok (.getfield 7, 3) := by decide +kernel
theorem dM_least_71 : decode cM_least 71 = .ok (.aload_n 0, 1) := by decide +kernel
theorem dM_least_72 : decode cM_least 72 = .ok (.getfield 220, 3) := by decide +kernel
theorem dM_least_75 : decode cM_least 75 = .ok (.iconst 1, 1) := by decide +kernel
theorem dM_least_76 : decode cM_least 76 = .ok (.isub, 1) := by decide +kernel
theorem dM_least_77 : decode cM_least 77 = .ok (.iaload, 1) := by decide +kernel
theorem dM_least_78 : decode cM_least 78 = .ok (.if_icmp .ge 187, 3) := by decide +kernel
theorem dM_least_81 : decode cM_least 81 = .ok (.aload_n 0, 1) := by decide +kernel
theorem dM_least_82 : decode cM_least 82 = .ok (.getfield 245, 3) := by decide +kernel
theorem dM_least_85 : decode cM_least 85 = .ok (.iconst 2, 1) := by decide +kernel
theorem dM_least_86 : decode cM_least 86 = .ok (.if_icmp .eq 179, 3) := by decide +kernel
theorem dM_least_89 : decode cM_least 89 = .ok (.aload_n 0, 1) := by decide +kernel
theorem dM_least_90 : decode cM_least 90 = .ok (.invokevirtual 198, 3) := by decide +kernel
theorem dM_least_93 : decode cM_least 93 = .ok (.aload_n 0, 1) := by decide +kernel
theorem dM_least_94 : decode cM_least 94 = .ok (.aload_n 0, 1) := by decide +kernel
theorem dM_least_95 : decode cM_least 95 = .ok (.getfield 220, 3) := by decide +kernel
theorem dM_least_98 : decode cM_least 98 = .ok (.iconst 1, 1) := by decide +kernel
theorem dM_least_99 : decode cM_least 99 = .ok (.isub, 1) := by decide +kernel
theorem dM_least_100 : decode cM_least 100 = .ok (.iload_n 3, 1) := by decide +kernel
theorem dM_least_101 : decode cM_least 101 = .ok (.aload_n 0, 1) := by decide +kernel
theorem dM_least_102 : decode cM_least 102 = .ok (.getfield 13, 3) := by decide +kernel
theorem dM_least_105 : decode cM_least 105 = .ok (.bipush 12, 2) := by decide +kernel
theorem dM_least_107 : decode cM_least 107 = .ok (.aload_n 0, 1) := by decide +kernel
theorem dM_least_108 : decode cM_least 108 = .ok (.getfield 220, 3) := by decide +kernel
theorem dM_least_111 : decode cM_least 111 = .ok (.iconst 1, 1) := by decide +kernel
theorem dM_least_112 : decode cM_least 112 = .ok (.isub, 1) := by decide +kernel
theorem dM_least_113 : decode cM_least 113 = .ok (.imul, 1) := by decide +kernel
theorem dM_least_114 : decode cM_least 114 = .ok (.iload_n 3, 1) := by decide +kernel
theorem dM_least_115 : decode cM_least 115 = .ok (.iadd, 1) := by decide +kernel
theorem dM_least_116 : decode cM_least 116 = .ok (.iaload, 1) := by decide +kernel
theorem dM_least_117 : decode cM_least 117 = .ok (.invokevirtual 201, 3) := by decide +kernel
theorem dM_least_120 : decode cM_least 120 = .ok (.aload_n 0, 1) := by decide +kernel
theorem dM_least_121 : decode cM_least 121 = .ok (.invokevirtual 172, 3) := by decide +kernel
theorem dM_least_124 : decode cM_least 124 = .ok (.aload_n 0, 1) := by decide +kernel
theorem dM_least_125 : decode cM_least 125 = .ok (.getfield 73, 3) := by decide +kernel
theorem dM_least_128 : decode cM_least 128 = .ok (.ifCond .eq 10, 3) := by decide +kernel
theorem dM_least_131 : decode cM_least 131 = .ok (.aload_n 0, 1) := by decide +kernel
theorem dM_least_132 : decode cM_least 132 = .ok (.invokevirtual 98, 3) := by decide +kernel
theorem dM_least_135 : decode cM_least 135 = .ok (.ifCond .eq 14, 3) := by decide +kernel
theorem dM_least_138 : decode cM_least 138 = .ok (.aload_n 0, 1) := by decide +kernel
theorem dM_least_139 : decode cM_least 139 = .ok (.iload_n 1, 1) := by decide +kernel
theorem dM_least_140 : decode cM_least 140 = .ok (.i2l, 1) := by decide +kernel
theorem dM_least_141 : decode cM_least 141 = .ok (.iload_n 2, 1) := by decide +kernel
theorem dM_least_142 : decode cM_least 142 = .ok (.i2l, 1) := by decide +kernel
theorem dM_least_143 : decode cM_least 143 = .ok (.invokevirtual 251, 3) := by decide +kernel
theorem dM_least_146 : decode cM_least 146 = .ok (.goto 11, 3) := by decide +kernel
theorem dM_least_149 : decode cM_least 149 = .ok (.aload_n 0, 1) := by decide +kernel
theorem dM_least_150 : decode cM_least 150 = .ok (.iload_n 1, 1) := by decide +kernel
theorem dM_least_151 : decode cM_least 151 = .ok (.i2l, 1) := by decide +kernel
theorem dM_least_152 : decode cM_least 152 = .ok (.iload_n 2, 1) := by decide +kernel
theorem dM_least_153 : decode cM_least 153 = .ok (.i2l, 1) := by decide +kernel
theorem dM_least_154 : decode cM_least 154 = .ok (.invokevirtual 255, 3) := by decide +kernel
theorem dM_least_157 : decode cM_least 157 = .ok (.aload_n 0, 1) := by decide +kernel
theorem dM_least_158 : decode cM_least 158 = .ok (.getfield 233, 3) := by decide +kernel
theorem dM_least_161 : decode cM_least 161 = .ok (.ifCond .ne 11, 3) := by decide +kernel
theorem dM_least_164 : decode cM_least 164 = .ok (.aload_n 0, 1) := by decide +kernel
theorem dM_least_165 : decode cM_least 165 = .ok (.iconst 2, 1) := by decide +kernel
theorem dM_least_166 : decode cM_least 166 = .ok (.putfield 245, 3) := by decide +kernel
theorem dM_least_169 : decode cM_least 169 = .ok (.goto 90, 3) := by decide +kernel
theorem dM_least_172 : decode cM_least 172 = .ok (.aload_n 0, 1) := by decide +kernel
theorem dM_least_173 : decode cM_least 173 = .ok (.getfield 245, 3) := by decide +kernel
theorem dM_least_176 : decode cM_least 176 = .ok (.iconst 3, 1) := by decide +kernel
theorem dM_least_177 : decode cM_least 177 = .ok (.if_icmp .ne 7, 3) := by decide +kernel
theorem dM_least_180 : decode cM_least 180 = .ok (.iconst (-1), 1) := by decide +kernel
theorem dM_least_181 : decode cM_least 181 = .ok (.goto 22, 3) := by decide +kernel
theorem dM_least_184 : decode cM_least 184 = .ok (.aload_n 0, 1) := by decide +kernel
theorem dM_least_185 : decode cM_least 185 = .ok (.getfield 239, 3) := by decide +kernel
theorem dM_least_188 : decode cM_least 188 = .ok (.aload_n 0, 1) := by decide +kernel
theorem dM_least_189 : decode cM_least 189 = .ok (.getfield 242, 3) := by decide +kernel
theorem dM_least_192 : decode cM_least 192 = .ok (.aload_n 0, 1) := by decide +kernel
theorem dM_least_193 : decode cM_least 193 = .ok (.getfield 258, 3) := by decide +kernel
theorem dM_least_196 : decode cM_least 196 = .ok (.aload_n 0, 1) := by decide +kernel
theorem dM_least_197 : decode cM_least 197 = .ok (.getfield 261, 3) := by decide +kernel
theorem dM_least_200 : decode cM_least 200 = .ok (.invokestatic 132, 3) := by decide +kernel
theorem dM_least_203 : decode cM_least 203 = .ok (.istore 4, 2) := by decide +kernel
theorem dM_least_205 : decode cM_least 205 = .ok (.iload 4, 2) := by decide +kernel
theorem dM_least_207 : decode cM_least 207 = .ok (.ifCond .lt 15, 3) := by decide +kernel
theorem dM_least_210 : decode cM_least 210 = .ok (.iload 4, 2) := by decide +kernel
theorem dM_least_212 : decode cM_least 212 = .ok (.ifCond .ne 26, 3) := by decide +kernel
theorem dM_least_215 : decode cM_least 215 = .ok (.aload_n 0, 1) := by decide +kernel
theorem dM_least_216 : decode cM_least 216 = .ok (.getfield 236, 3) := by decide +kernel
theorem dM_least_219 : decode cM_least 219 = .ok (.ifCond .eq 19, 3) := by decide +kernel
theorem dM_least_222 : decode cM_least 222 = .ok (.aload_n 0, 1) := by decide +kernel
theorem dM_least_223 : decode cM_least 223 = .ok (.aload_n 0, 1) := by decide +kernel
theorem dM_least_224 : decode cM_least 224 = .ok (.getfield 236, 3) := by decide +kernel
theorem dM_least_227 : decode cM_least 227 = .ok (.ifCond .eq 7, 3) := by decide +kernel
theorem dM_least_230 : decode cM_least 230 = .ok (.iconst 0, 1) := by decide +kernel
theorem dM_least_231 : decode cM_least 231 = .ok (.goto 4, 3) := by decide +kernel
theorem dM_least_234 : decode cM_least 234 = .ok (.iconst 1, 1) := by decide +kernel
theorem dM_least_235 : decode cM_least 235 = .ok (.putfield 245, 3) := by decide +kernel
theorem dM_least_238 : decode cM_least 238 = .ok (.iload 4, 2) := by decide +kernel
theorem dM_least_240 : decode cM_least 240 = .ok (.ifCond .ge 19, 3) := by decide +kernel
theorem dM_least_243 : decode cM_least 243 = .ok (.aload_n 0, 1) := by decide +kernel
theorem dM_least_244 : decode cM_least 244 = .ok (.aload_n 0, 1) := by decide +kernel
theorem dM_least_245 : decode cM_least 245 = .ok (.getfield 239, 3) := by decide +kernel
theorem dM_least_248 : decode cM_least 248 = .ok (.putfield 258, 3) := by decide +kernel
theorem dM_least_251 : decode cM_least 251 = .ok (.aload_n 0, 1) := by decide +kernel
theorem dM_least_252 : decode cM_least 252 = .ok (.aload_n 0, 1) := by decide +kernel
theorem dM_least_253 : decode cM_least 253 = .ok (.getfield 242, 3) := by decide +kernel
theorem dM_least_256 : decode cM_least 256 = .ok (.putfield 261, 3) := by decide +kernel
theorem dM_least_259 : decode cM_least 259 = .ok (.iinc 3 1, 3) := by decide +kernel
theorem dM_least_262 : decode cM_least 262 = .ok (.goto (-196), 3) := by decide +kernel
theorem dM_least_265 : decode cM_least 265 = .ok (.aload_n 0, 1) := by decide +kernel
theorem dM_least_266 : decode cM_least 266 = .ok (.aload_n 0, 1) := by decide +kernel
theorem dM_least_267 : decode cM_least 267 = .ok (.getfield 245, 3) := by decide +kernel
theorem dM_least_270 : decode cM_least 270 = .ok (.iconst 2, 1) := by decide +kernel
theorem dM_least_271 : decode cM_least 271 = .ok (.if_icmp .ge 7, 3) := by decide +kernel
theorem dM_least_274 : decode cM_least 274 = .ok (.iconst 1, 1) := by decide +kernel
theorem dM_least_275 : decode cM_least 275 = .ok (.goto 4, 3) := by decide +kernel
theorem dM_least_278 : decode cM_least 278 = .ok (.iconst 0, 1) := by decide +kernel
theorem dM_least_279 : decode cM_least 279 = .ok (.putfield 248, 3) := by decide +kernel
theorem dM_least_282 : decode cM_least 282 = .ok (.aload_n 0, 1) := by decide +kernel
theorem dM_least_283 : decode cM_least 283 = .ok (.getfield 248, 3) := by decide +kernel
theorem dM_least_286 : decode cM_least 286 = .ok (.ifCond .ne 8, 3) := by decide +kernel
theorem dM_least_289 : decode cM_least 289 = .ok (.aload_n 0, 1) := by decide +kernel
theorem dM_least_290 : decode cM_least 290 = .ok (.getfield 245, 3) := by decide +kernel
theorem dM_least_293 : decode cM_least 293 = .ok (.ireturn, 1) := by decide +kernel
theorem dM_least_294 : decode cM_least 294 = .ok (.aload_n 0, 1) := by decide +kernel
theorem dM_least_295 : decode cM_least 295 = .ok (.getfield 258, 3) := by decide +kernel
theorem dM_least_298 : decode cM_least 298 = .ok (.aload_n 0, 1) := by decide +kernel
theorem dM_least_299 : decode cM_least 299 = .ok (.getfield 261, 3) := by decide +kernel
theorem dM_least_302 : decode cM_least 302 = .ok (.invokestatic 161, 3) := by decide +kernel
theorem dM_least_305 : decode cM_least 305 = .ok (.lstore_n 3, 1) := by decide +kernel
theorem dM_least_306 : decode cM_least 306 = .ok (.aload_n 0, 1) := by decide +kernel
theorem dM_least_307 : decode cM_least 307 = .ok (.dup, 1) := by decide +kernel
theorem dM_least_308 : decode cM_least 308 = .ok (.getfield 258, 3) := by decide +kernel
theorem dM_least_311 : decode cM_least 311 = .ok (.lload_n 3, 1) := by decide +kernel
theorem dM_least_312 : decode cM_least 312 = .ok (.ldiv, 1) := by decide +kernel
theorem dM_least_313 : decode cM_least 313 = .ok (.putfield 258, 3) := by decide +kernel
theorem dM_least_316 : decode cM_least 316 = .ok (.aload_n 0, 1) := by decide +kernel
theorem dM_least_317 : decode cM_least 317 = .ok (.dup, 1) := by decide +kernel
theorem dM_least_318 : decode cM_least 318 = .ok (.getfield 261, 3) := by decide +kernel
theorem dM_least_321 : decode cM_least 321 = .ok (.lload_n 3, 1) := by decide +kernel
theorem dM_least_322 : decode cM_least 322 = .ok (.ldiv, 1) := by decide +kernel
theorem dM_least_323 : decode cM_least 323 = .ok (.putfield 261, 3) := by decide +kernel
theorem dM_least_326 : decode cM_least 326 = .ok (.aload_n 0, 1) := by decide +kernel
theorem dM_least_327 : decode cM_least 327 = .ok (.getfield 245, 3) := by decide +kernel
theorem dM_least_330 : decode cM_least 330 = .ok (.ireturn, 1) := by decide +kernel
theorem dM_value_0 : decode cM_value 0 = .ok (.aload_n 0, 1) := by decide +kernel
theorem dM_value_1 : decode cM_value 1 = .ok (.iload_n 1, 1) := by decide +kernel
theorem dM_value_2 : decode cM_value 2 = .ok (.ifCond .lt 8, 3) := by decide +kernel
theorem dM_value_5 : decode cM_value 5 = .ok (.iload_n 1, 1) := by decide +kernel
theorem dM_value_6 : decode cM_value 6 = .ok (.iconst 1, 1) := by decide +kernel
theorem dM_value_7 : decode cM_value 7 = .ok (.if_icmp .le 7, 3) := by decide +kernel
theorem dM_value_10 : decode cM_value 10 = .ok (.iconst 1, 1) := by decide +kernel
theorem dM_value_11 : decode cM_value 11 = .ok (.goto 4, 3) := by decide +kernel
theorem dM_value_14 : decode cM_value 14 = .ok (.iconst 0, 1) := by decide +kernel
theorem dM_value_15 : decode cM_value 15 = .ok (.putfield 66, 3) := by decide +kernel
theorem dM_value_18 : decode cM_value 18 = .ok (.aload_n 0, 1) := by decide +kernel
theorem dM_value_19 : decode cM_value 19 = .ok (.getfield 66, 3) := by decide +kernel
theorem dM_value_22 : decode cM_value 22 = .ok (.ifCond .gt 10, 3) := by decide +kernel
theorem dM_value_25 : decode cM_value 25 = .ok (.aload_n 0, 1) := by decide +kernel
theorem dM_value_26 : decode cM_value 26 = .ok (.getfield 248, 3) := by decide +kernel
theorem dM_value_29 : decode cM_value 29 = .ok (.ifCond .ne 5, 3) := by decide +kernel
theorem dM_value_32 : decode cM_value 32 = .ok (.lconst 0, 1) := by decide +kernel
theorem dM_value_33 : decode cM_value 33 = .ok (.lreturn, 1) := by decide +kernel
theorem dM_value_34 : decode cM_value 34 = .ok (.iload_n 1, 1) := by decide +kernel
theorem dM_value_35 : decode cM_value 35 = .ok (.ifCond .ne 10, 3) := by decide +kernel
theorem dM_value_38 : decode cM_value 38 = .ok (.aload_n 0, 1) := by decide +kernel
theorem dM_value_39 : decode cM_value 39 = .ok (.getfield 258, 3) := by decide +kernel
theorem dM_value_42 : decode cM_value 42 = .ok (.goto 7, 3) := by decide +kernel
theorem dM_value_45 : decode cM_value 45 = .ok (.aload_n 0, 1) := by decide +kernel
theorem dM_value_46 : decode cM_value 46 = .ok (.getfield 261, 3) := by decide +kernel
theorem dM_value_49 : decode cM_value 49 = .ok (.lreturn, 1) := by decide +kernel
