theorem dM_copy_144 : decode cM_copy 144 = .ok (.aload_n 0, 1) := by decide +kernel
theorem dM_copy_145 : decode cM_copy 145 = .ok (.getfield 25, 3) := by decide +kernel
theorem dM_copy_148 : decode cM_copy 148 = .ok (.sipush 144, 3) := by decide +kernel
theorem dM_copy_151 : decode cM_copy 151 = .ok (.iload_n 2, 1) := by decide +kernel
theorem dM_copy_152 : decode cM_copy 152 = .ok (.imul, 1) := by decide +kernel
theorem dM_copy_153 : decode cM_copy 153 = .ok (.iload_n 3, 1) := by decide +kernel
theorem dM_copy_154 : decode cM_copy 154 = .ok (.iadd, 1) := by decide +kernel
theorem dM_copy_155 : decode cM_copy 155 = .ok (.baload, 1) := by decide +kernel
theorem dM_copy_156 : decode cM_copy 156 = .ok (.bastore, 1) := by decide +kernel
theorem dM_copy_157 : decode cM_copy 157 = .ok (.iinc 3 1, 3) := by decide +kernel
theorem dM_copy_160 : decode cM_copy 160 = .ok (.goto (-106), 3) := by decide +kernel
theorem dM_copy_163 : decode cM_copy 163 = .ok (.return_, 1) := by decide +kernel
theorem dM_both_0 : decode cM_both 0 = .ok (.aload_n 0, 1) := by decide +kernel
theorem dM_both_1 : decode cM_both 1 = .ok (.getfield 7, 3) := by decide +kernel
theorem dM_both_4 : decode cM_both 4 = .ok (.iload_n 1, 1) := by decide +kernel
theorem dM_both_5 : decode cM_both 5 = .ok (.iconst 0, 1) := by decide +kernel
theorem dM_both_6 : decode cM_both 6 = .ok (.iastore, 1) := by decide +kernel
theorem dM_both_7 : decode cM_both 7 = .ok (.iconst 0, 1) := by decide +kernel
theorem dM_both_8 : decode cM_both 8 = .ok (.istore 4, 2) := by decide +kernel
theorem dM_both_10 : decode cM_both 10 = .ok (.iload 4, 2) := by decide +kernel
theorem dM_both_12 : decode cM_both 12 = .ok (.aload_n 0, 1) := by decide +kernel
theorem dM_both_13 : decode cM_both 13 = .ok (.getfield 7, 3) := by decide +kernel
theorem dM_both_16 : decode cM_both 16 = .ok (.iload_n 2, 1) := by decide +kernel
theorem dM_both_17 : decode cM_both 17 = .ok (.iaload, 1) := by decide +kernel
theorem dM_both_18 : decode cM_both 18 = .ok (.if_icmp .ge 90, 3) := by decide +kernel
theorem dM_both_21 : decode cM_both 21 = .ok (.aload_n 0, 1) := by decide +kernel
theorem dM_both_22 : decode cM_both 22 = .ok (.getfield 181, 3) := by decide +kernel
theorem dM_both_25 : decode cM_both 25 = .ok (.ifCond .ne 83, 3) := by decide +kernel
theorem dM_both_28 : decode cM_both 28 = .ok (.iconst 0, 1) := by decide +kernel
theorem dM_both_29 : decode cM_both 29 = .ok (.istore 5, 2) := by decide +kernel
theorem dM_both_31 : decode cM_both 31 = .ok (.iload 5, 2) := by decide +kernel
theorem dM_both_33 : decode cM_both 33 = .ok (.aload_n 0, 1) := by decide +kernel
theorem dM_both_34 : decode cM_both 34 = .ok (.getfield 7, 3) := by decide +kernel
theorem dM_both_37 : decode cM_both 37 = .ok (.iload_n 3, 1) := by decide +kernel
theorem dM_both_38 : decode cM_both 38 = .ok (.iaload, 1) := by decide +kernel
theorem dM_both_39 : decode cM_both 39 = .ok (.if_icmp .ge 63, 3) := by decide +kernel
theorem dM_both_42 : decode cM_both 42 = .ok (.aload_n 0, 1) := by decide +kernel
theorem dM_both_43 : decode cM_both 43 = .ok (.getfield 181, 3) := by decide +kernel
theorem dM_both_46 : decode cM_both 46 = .ok (.ifCond .ne 56, 3) := by decide +kernel
theorem dM_both_49 : decode cM_both 49 = .ok (.aload_n 0, 1) := by decide +kernel
theorem dM_both_50 : decode cM_both 50 = .ok (.invokevirtual 198, 3) := by decide +kernel
theorem dM_both_53 : decode cM_both 53 = .ok (.aload_n 0, 1) := by decide +kernel
theorem dM_both_54 : decode cM_both 54 = .ok (.iload_n 2, 1) := by decide +kernel
theorem dM_both_55 : decode cM_both 55 = .ok (.iload 4, 2) := by decide +kernel
theorem dM_both_57 : decode cM_both 57 = .ok (.aload_n 0, 1) := by decide +kernel
theorem dM_both_58 : decode cM_both 58 = .ok (.getfield 13, 3) := by decide +kernel
theorem dM_both_61 : decode cM_both 61 = .ok (.bipush 12, 2) := by decide +kernel
theorem dM_both_63 : decode cM_both 63 = .ok (.iload_n 2, 1) := by decide +kernel
theorem dM_both_64 : decode cM_both 64 = .ok (.imul, 1) := by decide +kernel
theorem dM_both_65 : decode cM_both 65 = .ok (.iload 4, 2) := by decide +kernel
theorem dM_both_67 : decode cM_both 67 = .ok (.iadd, 1) := by decide +kernel
theorem dM_both_68 : decode cM_both 68 = .ok (.iaload, 1) := by decide +kernel
theorem dM_both_69 : decode cM_both 69 = .ok (.invokevirtual 201, 3) := by decide +kernel
theorem dM_both_72 : decode cM_both 72 = .ok (.aload_n 0, 1) := by decide +kernel
theorem dM_both_73 : decode cM_both 73 = .ok (.iload_n 3, 1) := by decide +kernel
theorem dM_both_74 : decode cM_both 74 = .ok (.iload 5, 2) := by decide +kernel
theorem dM_both_76 : decode cM_both 76 = .ok (.aload_n 0, 1) := by decide +kernel
theorem dM_both_77 : decode cM_both 77 = .ok (.getfield 13, 3) := by decide +kernel
theorem dM_both_80 : decode cM_both 80 = .ok (.bipush 12, 2) := by decide +kernel
theorem dM_both_82 : decode cM_both 82 = .ok (.iload_n 3, 1) := by decide +kernel
theorem dM_both_83 : decode cM_both 83 = .ok (.imul, 1) := by decide +kernel
theorem dM_both_84 : decode cM_both 84 = .ok (.iload 5, 2) := by decide +kernel
theorem dM_both_86 : decode cM_both 86 = .ok (.iadd, 1) := by decide +kernel
theorem dM_both_87 : decode cM_both 87 = .ok (.iaload, 1) := by decide +kernel
theorem dM_both_88 : decode cM_both 88 = .ok (.invokevirtual 201, 3) := by decide +kernel
theorem dM_both_91 : decode cM_both 91 = .ok (.aload_n 0, 1) := by decide +kernel
theorem dM_both_92 : decode cM_both 92 = .ok (.iload_n 1, 1) := by decide +kernel
theorem dM_both_93 : decode cM_both 93 = .ok (.invokevirtual 205, 3) := by decide +kernel
theorem dM_both_96 : decode cM_both 96 = .ok (.iinc 5 1, 3) := by decide +kernel
theorem dM_both_99 : decode cM_both 99 = .ok (.goto (-68), 3) := by decide +kernel
theorem dM_both_102 : decode cM_both 102 = .ok (.iinc 4 1, 3) := by decide +kernel
theorem dM_both_105 : decode cM_both 105 = .ok (.goto (-95), 3) := by decide +kernel
theorem dM_both_108 : decode cM_both 108 = .ok (.return_, 1) := by decide +kernel
theorem dM_parts_0 : decode cM_parts 0 = .ok (.aload_n 0, 1) := by decide +kernel
theorem dM_parts_1 : decode cM_parts 1 = .ok (.getfield 7, 3) := by decide +kernel
theorem dM_parts_4 : decode cM_parts 4 = .ok (.iload_n 1, 1) := by decide +kernel
theorem dM_parts_5 : decode cM_parts 5 = .ok (.iconst 0, 1) := by decide +kernel
theorem dM_parts_6 : decode cM_parts 6 = .ok (.iastore, 1) := by decide +kernel
theorem dM_parts_7 : decode cM_parts 7 = .ok (.iconst 0, 1) := by decide +kernel
theorem dM_parts_8 : decode cM_parts 8 = .ok (.istore 4, 2) := by decide +kernel
theorem dM_parts_10 : decode cM_parts 10 = .ok (.iload 4, 2) := by decide +kernel
theorem dM_parts_12 : decode cM_parts 12 = .ok (.aload_n 0, 1) := by decide +kernel
theorem dM_parts_13 : decode cM_parts 13 = .ok (.getfield 13, 3) := by decide +kernel
theorem dM_parts_16 : decode cM_parts 16 = .ok (.bipush 12, 2) := by decide +kernel
theorem dM_parts_18 : decode cM_parts 18 = .ok (.iload_n 2, 1) := by decide +kernel
theorem dM_parts_19 : decode cM_parts 19 = .ok (.imul, 1) := by decide +kernel
theorem dM_parts_20 : decode cM_parts 20 = .ok (.iload_n 3, 1) := by decide +kernel
theorem dM_parts_21 : decode cM_parts 21 = .ok (.iadd, 1) := by decide +kernel
theorem dM_parts_22 : decode cM_parts 22 = .ok (.iaload, 1) := by decide +kernel
theorem dM_parts_23 : decode cM_parts 23 = .ok (.if_icmp .ge 81, 3) := by decide +kernel
theorem dM_parts_26 : decode cM_parts 26 = .ok (.aload_n 0, 1) := by decide +kernel
theorem dM_parts_27 : decode cM_parts 27 = .ok (.invokevirtual 198, 3) := by decide +kernel
theorem dM_parts_30 : decode cM_parts 30 = .ok (.aload_n 0, 1) := by decide +kernel
theorem dM_parts_31 : decode cM_parts 31 = .ok (.iload_n 2, 1) := by decide +kernel
theorem dM_parts_32 : decode cM_parts 32 = .ok (.iload_n 3, 1) := by decide +kernel
theorem dM_parts_33 : decode cM_parts 33 = .ok (.iload 4, 2) := by decide +kernel
theorem dM_parts_35 : decode cM_parts 35 = .ok (.invokevirtual 201, 3) := by decide +kernel
theorem dM_parts_38 : decode cM_parts 38 = .ok (.iload_n 2, 1) := by decide +kernel
theorem dM_parts_39 : decode cM_parts 39 = .ok (.iload_n 3, 1) := by decide +kernel
theorem dM_parts_40 : decode cM_parts 40 = .ok (.iload 4, 2) := by decide +kernel
theorem dM_parts_42 : decode cM_parts 42 = .ok (.invokestatic 149, 3) := by decide +kernel
theorem dM_parts_45 : decode cM_parts 45 = .ok (.istore 5, 2) := by decide +kernel
theorem dM_parts_47 : decode cM_parts 47 = .ok (.aload_n 0, 1) := by decide +kernel
theorem dM_parts_48 : decode cM_parts 48 = .ok (.aload_n 0, 1) := by decide +kernel
theorem dM_parts_49 : decode cM_parts 49 = .ok (.getfield 16, 3) := by decide +kernel
theorem dM_parts_52 : decode cM_parts 52 = .ok (.iload 5, 2) := by decide +kernel
theorem dM_parts_54 : decode cM_parts 54 = .ok (.iaload, 1) := by decide +kernel
theorem dM_parts_55 : decode cM_parts 55 = .ok (.ineg, 1) := by decide +kernel
theorem dM_parts_56 : decode cM_parts 56 = .ok (.i2l, 1) := by decide +kernel
theorem dM_parts_57 : decode cM_parts 57 = .ok (.aload_n 0, 1) := by decide +kernel
theorem dM_parts_58 : decode cM_parts 58 = .ok (.getfield 19, 3) := by decide +kernel
theorem dM_parts_61 : decode cM_parts 61 = .ok (.iload 5, 2) := by decide +kernel
theorem dM_parts_63 : decode cM_parts 63 = .ok (.iaload, 1) := by decide +kernel
theorem dM_parts_64 : decode cM_parts 64 = .ok (.ineg, 1) := by decide +kernel
theorem dM_parts_65 : decode cM_parts 65 = .ok (.i2l, 1) := by decide +kernel
theorem dM_parts_66 : decode cM_parts 66 = .ok (.aload_n 0, 1) := by decide +kernel
theorem dM_parts_67 : decode cM_parts 67 = .ok (.getfield 22, 3) := by decide +kernel
theorem dM_parts_70 : decode cM_parts 70 = .ok (.iload 5, 2) := by decide +kernel
theorem dM_parts_72 : decode cM_parts 72 = .ok (.iaload, 1) := by decide +kernel
theorem dM_parts_73 : decode cM_parts 73 = .ok (.ineg, 1) := by decide +kernel
theorem dM_parts_74 : decode cM_parts 74 = .ok (.i2l, 1) := by decide +kernel
theorem dM_parts_75 : decode cM_parts 75 = .ok (.aload_n 0, 1) := by decide +kernel
theorem dM_parts_76 : decode cM_parts 76 = .ok (.getfield 25, 3) := by decide +kernel
theorem dM_parts_79 : decode cM_parts 79 = .ok (.iload 5, 2) := by decide +kernel
theorem dM_parts_81 : decode cM_parts 81 = .ok (.baload, 1) := by decide +kernel
theorem dM_parts_82 : decode cM_parts 82 = .ok (.ifCond .ne 7, 3) := by decide +kernel
theorem dM_parts_85 : decode cM_parts 85 = .ok (.iconst 1, 1) := by decide +kernel
theorem dM_parts_86 : decode cM_parts 86 = .ok (.goto 4, 3) := by decide +kernel
theorem dM_parts_89 : decode cM_parts 89 = .ok (.iconst 0, 1) := by decide +kernel
theorem dM_parts_90 : decode cM_parts 90 = .ok (.invokevirtual 153, 3) := by decide +kernel
theorem dM_parts_93 : decode cM_parts 93 = .ok (.aload_n 0, 1) := by decide +kernel
theorem dM_parts_94 : decode cM_parts 94 = .ok (.iload_n 1, 1) := by decide +kernel
theorem dM_parts_95 : decode cM_parts 95 = .ok (.invokevirtual 205, 3) := by decide +kernel
theorem dM_parts_98 : decode cM_parts 98 = .ok (.iinc 4 1, 3) := by decide +kernel
theorem dM_parts_101 : decode cM_parts 101 = .ok (.goto (-91), 3) := by decide +kernel
theorem dM_parts_104 : decode cM_parts 104 = .ok (.return_, 1) := by decide +kernel
theorem dM_contrary_0 : decode cM_contrary 0 = .ok (.aload_n 0, 1) := by decide +kernel
theorem dM_contrary_1 : decode cM_contrary 1 = .ok (.getfield 7, 3) := by decide +kernel
theorem dM_contrary_4 : decode cM_contrary 4 = .ok (.bipush 12, 2) := by decide +kernel
theorem dM_contrary_6 : decode cM_contrary 6 = .ok (.iconst 0, 1) := by decide +kernel
theorem dM_contrary_7 : decode cM_contrary 7 = .ok (.iastore, 1) := by decide +kernel
theorem dM_contrary_8 : decode cM_contrary 8 = .ok (.aload_n 0, 1) := by decide +kernel
theorem dM_contrary_9 : decode cM_contrary 9 = .ok (.invokevirtual 198, 3) := by decide +kernel
theorem dM_contrary_12 : decode cM_contrary 12 = .ok (.aload_n 0, 1) := by decide +kernel
theorem dM_contrary_13 : decode cM_contrary 13 = .ok (.bipush 12, 2) := by decide +kernel
theorem dM_contrary_15 : decode cM_contrary 15 = .ok (.invokevirtual 205, 3) := by decide +kernel
theorem dM_contrary_18 : decode cM_contrary 18 = .ok (.iconst 0, 1) := by decide +kernel
theorem dM_contrary_19 : decode cM_contrary 19 = .ok (.istore_n 2, 1) := by decide +kernel
theorem dM_contrary_20 : decode cM_contrary 20 = .ok (.iload_n 2, 1) := by decide +kernel
theorem dM_contrary_21 : decode cM_contrary 21 = .ok (.aload_n 0, 1) := by decide +kernel
theorem dM_contrary_22 : decode cM_contrary 22 = .ok (.getfield 7, 3) := by decide +kernel
theorem dM_contrary_25 : decode cM_contrary 25 = .ok (.iload_n 1, 1) := by decide +kernel
theorem dM_contrary_26 : decode cM_contrary 26 = .ok (.iaload, 1) := by decide +kernel
theorem dM_contrary_27 : decode cM_contrary 27 = .ok (.if_icmp .ge 42, 3) := by decide +kernel
theorem dM_contrary_30 : decode cM_contrary 30 = .ok (.aload_n 0, 1) := by decide +kernel
theorem dM_contrary_31 : decode cM_contrary 31 = .ok (.getfield 181, 3) := by decide +kernel
theorem dM_contrary_34 : decode cM_contrary 34 = .ok (.ifCond .ne 35, 3) := by decide +kernel
theorem dM_contrary_37 : decode cM_contrary 37 = .ok (.aload_n 0, 1) := by decide +kernel
theorem dM_contrary_38 : decode cM_contrary 38 = .ok (.bipush 11, 2) := by decide +kernel
theorem dM_contrary_40 : decode cM_contrary 40 = .ok (.iload_n 1, 1) := by decide +kernel
theorem dM_contrary_41 : decode cM_contrary 41 = .ok (.iload_n 2, 1) := by decide +kernel
theorem dM_contrary_42 : decode cM_contrary 42 = .ok (.invokevirtual 208, 3) := by decide +kernel
theorem dM_contrary_45 : decode cM_contrary 45 = .ok (.aload_n 0, 1) := by decide +kernel
theorem dM_contrary_46 : decode cM_contrary 46 = .ok (.bipush 13, 2) := by decide +kernel
theorem dM_contrary_48 : decode cM_contrary 48 = .ok (.bipush 12, 2) := by decide +kernel
theorem dM_contrary_50 : decode cM_contrary 50 = .ok (.bipush 11, 2) := by decide +kernel
theorem dM_contrary_52 : decode cM_contrary 52 = .ok (.invokevirtual 211, 3) := by decide +kernel
theorem dM_contrary_55 : decode cM_contrary 55 = .ok (.aload_n 0, 1) := by decide +kernel
theorem dM_contrary_56 : decode cM_contrary 56 = .ok (.bipush 12, 2) := by decide +kernel
theorem dM_contrary_58 : decode cM_contrary 58 = .ok (.bipush 13, 2) := by decide +kernel
theorem dM_contrary_60 : decode cM_contrary 60 = .ok (.invokevirtual 214, 3) := by decide +kernel
theorem dM_contrary_63 : decode cM_contrary 63 = .ok (.iinc 2 1, 3) := by decide +kernel
theorem dM_contrary_66 : decode cM_contrary 66 = .ok (.goto (-46), 3) := by decide +kernel
theorem dM_contrary_69 : decode cM_contrary 69 = .ok (.return_, 1) := by decide +kernel
theorem dM_member_0 : decode cM_member 0 = .ok (.aload_n 0, 1) := by decide +kernel
theorem dM_member_1 : decode cM_member 1 = .ok (.iload_n 1, 1) := by decide +kernel
theorem dM_member_2 : decode cM_member 2 = .ok (.i2l, 1) := by decide +kernel
theorem dM_member_3 : decode cM_member 3 = .ok (.invokestatic 187, 3) := by decide +kernel
theorem dM_member_6 : decode cM_member 6 = .ok (.ifCond .ne 27, 3) := by decide +kernel
theorem dM_member_9 : decode cM_member 9 = .ok (.iload_n 2, 1) := by decide +kernel
theorem dM_member_10 : decode cM_member 10 = .ok (.i2l, 1) := by decide +kernel
theorem dM_member_11 : decode cM_member 11 = .ok (.invokestatic 187, 3) := by decide +kernel
theorem dM_member_14 : decode cM_member 14 = .ok (.ifCond .ne 19, 3) := by decide +kernel
theorem dM_member_17 : decode cM_member 17 = .ok (.iload_n 3, 1) := by decide +kernel
theorem dM_member_18 : decode cM_member 18 = .ok (.i2l, 1) := by decide +kernel
theorem dM_member_19 : decode cM_member 19 = .ok (.invokestatic 187, 3) := by decide +kernel
theorem dM_member_22 : decode cM_member 22 = .ok (.ifCond .ne 11, 3) := by decide +kernel
theorem dM_member_25 : decode cM_member 25 = .ok (.iload_n 1, 1) := by decide +kernel
theorem dM_member_26 : decode cM_member 26 = .ok (.ifCond .ne 11, 3) := by decide +kernel
theorem dM_member_29 : decode cM_member 29 = .ok (.iload_n 2, 1) := by decide +kernel
theorem dM_member_30 : decode cM_member 30 = .ok (.ifCond .ne 7, 3) := by decide +kernel
theorem dM_member_33 : decode cM_member 33 = .ok (.iconst 1, 1) := by decide +kernel
theorem dM_member_34 : decode cM_member 34 = .ok (.goto 17, 3) := by decide +kernel
theorem dM_member_37 : decode cM_member 37 = .ok (.aload_n 0, 1) := by decide +kernel
theorem dM_member_38 : decode cM_member 38 = .ok (.getfield 217, 3) := by decide +kernel
theorem dM_member_41 : decode cM_member 41 = .ok (.bipush 12, 2) := by decide +kernel
theorem dM_member_43 : decode cM_member 43 = .ok (.if_icmp .ne 7, 3) := by decide +kernel
theorem dM_member_46 : decode cM_member 46 = .ok (.iconst 2, 1) := by decide +kernel
theorem dM_member_47 : decode cM_member 47 = .ok (.goto 4, 3) := by decide +kernel
theorem dM_member_50 : decode cM_member 50 = .ok (.iconst 0, 1) := by decide +kernel
theorem dM_member_51 : decode cM_member 51 = .ok (.putfield 66, 3) := by decide +kernel
theorem dM_member_54 : decode cM_member 54 = .ok (.aload_n 0, 1) := by decide +kernel
theorem dM_member_55 : decode cM_member 55 = .ok (.getfield 66, 3) := by decide +kernel
theorem dM_member_58 : decode cM_member 58 = .ok (.ifCond .le 5, 3) := by decide +kernel
theorem dM_member_61 : decode cM_member 61 = .ok (.iconst 0, 1) := by decide +kernel
theorem dM_member_62 : decode cM_member 62 = .ok (.ireturn, 1) := by decide +kernel
theorem dM_member_63 : decode cM_member 63 = .ok (.aload_n 0, 1) := by decide +kernel
theorem dM_member_64 : decode cM_member 64 = .ok (.getfield 29, 3) := by decide +kernel
theorem dM_member_67 : decode cM_member 67 = .ok (.aload_n 0, 1) := by decide +kernel
theorem dM_member_68 : decode cM_member 68 = .ok (.getfield 217, 3) := by decide +kernel
theorem dM_member_71 : decode cM_member 71 = .ok (.iload_n 1, 1) := by decide +kernel
theorem dM_member_72 : decode cM_member 72 = .ok (.iastore, 1) := by decide +kernel
theorem dM_member_73 : decode cM_member 73 = .ok (.aload_n 0, 1) := by decide +kernel
theorem dM_member_74 : decode cM_member 74 = .ok (.getfield 32, 3) := by decide +kernel
theorem dM_member_77 : decode cM_member 77 = .ok (.aload_n 0, 1) := by decide +kernel
theorem dM_member_78 : decode cM_member 78 = .ok (.getfield 217, 3) := by decide +kernel
theorem dM_member_81 : decode cM_member 81 = .ok (.iload_n 2, 1) := by decide +kernel
theorem dM_member_82 : decode cM_member 82 = .ok (.iastore, 1) := by decide +kernel
theorem dM_member_83 : decode cM_member 83 = .ok (.aload_n 0, 1) := by decide +kernel
theorem dM_member_84 : decode cM_member 84 = .ok (.getfield 35, 3) := by decide +kernel
theorem dM_member_87 : decode cM_member 87 = .ok (.aload_n 0, 1) := by decide +kernel
theorem dM_member_88 : decode cM_member 88 = .ok (.getfield 217, 3) := by decide +kernel
theorem dM_member_91 : decode cM_member 91 = .ok (.iload_n 3, 1) := by decide +kernel
theorem dM_member_92 : decode cM_member 92 = .ok (.iastore, 1) := by decide +kernel
theorem dM_member_93 : decode cM_member 93 = .ok (.aload_n 0, 1) := by decide +kernel
theorem dM_member_94 : decode cM_member 94 = .ok (.getfield 38, 3) := by decide +kernel
theorem dM_member_97 : decode cM_member 97 = .ok (.aload_n 0, 1) := by decide +kernel
theorem dM_member_98 : decode cM_member 98 = .ok (.getfield 217, 3) := by decide +kernel
theorem dM_member_101 : decode cM_member 101 = .ok (.iload 4, 2) := by decide +kernel
theorem dM_member_103 : decode cM_member 103 = .ok (.bastore, 1) := by decide +kernel
theorem dM_member_104 : decode cM_member 104 = .ok (.aload_n 0, 1) := by decide +kernel
theorem dM_member_105 : decode cM_member 105 = .ok (.dup, 1) := by decide +kernel
theorem dM_member_106 : decode cM_member 106 = .ok (.getfield 217, 3) := by decide +kernel
theorem dM_member_109 : decode cM_member 109 = .ok (.iconst 1, 1) := by decide +kernel
theorem dM_member_110 : decode cM_member 110 = .ok (.iadd, 1) := by decide +kernel
theorem dM_member_111 : decode cM_member 111 = .ok (.putfield 217, 3) := by decide +kernel
theorem dM_member_114 : decode cM_member 114 = .ok (.aload_n 0, 1) := by decide +kernel
theorem dM_member_115 : decode cM_member 115 = .ok (.getfield 217, 3) := by decide +kernel
theorem dM_member_118 : decode cM_member 118 = .ok (.ireturn, 1) := by decide +kernel
theorem dM_row_0 : decode cM_row 0 = .ok (.aload_n 0, 1) := by decide +kernel
theorem dM_row_1 : decode cM_row 1 = .ok (.aload_n 0, 1) := by decide +kernel
theorem dM_row_2 : decode cM_row 2 = .ok (.getfield 220, 3) := by decide +kernel
theorem dM_row_5 : decode cM_row 5 = .ok (.bipush 6, 2) := by decide +kernel
theorem dM_row_7 : decode cM_row 7 = .ok (.if_icmp .ne 7, 3) := by decide +kernel
theorem dM_row_10 : decode cM_row 10 = .ok (.iconst 1, 1) := by decide +kernel
theorem dM_row_11 : decode cM_row 11 = .ok (.goto 4, 3) := by decide +kernel
theorem dM_row_14 : decode cM_row 14 = .ok (.iconst 0, 1) := by decide +kernel
theorem dM_row_15 : decode cM_row 15 = .ok (.putfield 66, 3) := by decide +kernel
theorem dM_row_18 : decode cM_row 18 = .ok (.aload_n 0, 1) := by decide +kernel
theorem dM_row_19 : decode cM_row 19 = .ok (.getfield 66, 3) := by decide +kernel
theorem dM_row_22 : decode cM_row 22 = .ok (.ifCond .le 5, 3) := by decide +kernel
theorem dM_row_25 : decode cM_row 25 = .ok (.iconst 0, 1) := by decide +kernel
theorem dM_row_26 : decode cM_row 26 = .ok (.ireturn, 1) := by decide +kernel
theorem dM_row_27 : decode cM_row 27 = .ok (.aload_n 0, 1) := by decide +kernel
theorem dM_row_28 : decode cM_row 28 = .ok (.iconst 0, 1) := by decide +kernel
theorem dM_row_29 : decode cM_row 29 = .ok (.putfield 181, 3) := by decide +kernel
theorem dM_row_32 : decode cM_row 32 = .ok (.aload_n 0, 1) := by decide +kernel
theorem dM_row_33 : decode cM_row 33 = .ok (.getfield 7, 3) := by decide +kernel
theorem dM_row_36 : decode cM_row 36 = .ok (.aload_n 0, 1) := by decide +kernel
theorem dM_row_37 : decode cM_row 37 = .ok (.getfield 220, 3) := by decide +kernel
theorem dM_row_40 : decode cM_row 40 = .ok (.iconst 0, 1) := by decide +kernel
theorem dM_row_41 : decode cM_row 41 = .ok (.iastore, 1) := by decide +kernel
theorem dM_row_42 : decode cM_row 42 = .ok (.aload_n 0, 1) := by decide +kernel
theorem dM_row_43 : decode cM_row 43 = .ok (.invokevirtual 198, 3) := by decide +kernel
theorem dM_row_46 : decode cM_row 46 = .ok (.iconst 0, 1) := by decide +kernel
theorem dM_row_47 : decode cM_row 47 = .ok (.istore_n 1, 1) := by decide +kernel
theorem dM_row_48 : decode cM_row 48 = .ok (.iload_n 1, 1) := by decide +kernel
theorem dM_row_49 : decode cM_row 49 = .ok (.aload_n 0, 1) := by decide +kernel
theorem dM_row_50 : decode cM_row 50 = .ok (.getfield 217, 3) := by decide +kernel
theorem dM_row_53 : decode cM_row 53 = .ok (.if_icmp .ge 40, 3) := by decide +kernel
theorem dM_row_56 : decode cM_row 56 = .ok (.aload_n 0, 1) := by decide +kernel
theorem dM_row_57 : decode cM_row 57 = .ok (.aload_n 0, 1) := by decide +kernel
theorem dM_row_58 : decode cM_row 58 = .ok (.getfield 29, 3) := by decide +kernel
theorem dM_row_61 : decode cM_row 61 = .ok (.iload_n 1, 1) := by decide +kernel
theorem dM_row_62 : decode cM_row 62 = .ok (.iaload, 1) := by decide +kernel
theorem dM_row_63 : decode cM_row 63 = .ok (.i2l, 1) := by decide +kernel
theorem dM_row_64 : decode cM_row 64 = .ok (.aload_n 0, 1) := by decide +kernel
theorem dM_row_65 : decode cM_row 65 = .ok (.getfield 32, 3) := by decide +kernel
theorem dM_row_68 : decode cM_row 68 = .ok (.iload_n 1, 1) := by decide +kernel
theorem dM_row_69 : decode cM_row 69 = .ok (.iaload, 1) := by decide +kernel
theorem dM_row_70 : decode cM_row 70 = .ok (.i2l, 1) := by decide +kernel
theorem dM_row_71 : decode cM_row 71 = .ok (.aload_n 0, 1) := by decide +kernel
theorem dM_row_72 : decode cM_row 72 = .ok (.getfield 35, 3) := by decide +kernel
theorem dM_row_75 : decode cM_row 75 = .ok (.iload_n 1, 1) := by decide +kernel
theorem dM_row_76 : decode cM_row 76 = .ok (.iaload, 1) := by decide +kernel
theorem dM_row_77 : decode cM_row 77 = .ok (.i2l, 1) := by decide +kernel
theorem dM_row_78 : decode cM_row 78 = .ok (.aload_n 0, 1) := by decide +kernel
theorem dM_row_79 : decode cM_row 79 = .ok (.getfield 38, 3) := by decide +kernel
theorem dM_row_82 : decode cM_row 82 = .ok (.iload_n 1, 1) := by decide +kernel
theorem dM_row_83 : decode cM_row 83 = .ok (.baload, 1) := by decide +kernel
theorem dM_row_84 : decode cM_row 84 = .ok (.invokevirtual 153, 3) := by decide +kernel
theorem dM_row_87 : decode cM_row 87 = .ok (.iinc 1 1, 3) := by decide +kernel
theorem dM_row_90 : decode cM_row 90 = .ok (.goto (-42), 3) := by decide +kernel
theorem dM_row_93 : decode cM_row 93 = .ok (.aload_n 0, 1) := by decide +kernel
theorem dM_row_94 : decode cM_row 94 = .ok (.aload_n 0, 1) := by decide +kernel
theorem dM_row_95 : decode cM_row 95 = .ok (.getfield 220, 3) := by decide +kernel
theorem dM_row_98 : decode cM_row 98 = .ok (.invokevirtual 205, 3) := by decide +kernel
theorem dM_row_101 : decode cM_row 101 = .ok (.aload_n 0, 1) := by decide +kernel
theorem dM_row_102 : decode cM_row 102 = .ok (.iconst 0, 1) := by decide +kernel
theorem dM_row_103 : decode cM_row 103 = .ok (.putfield 217, 3) := by decide +kernel
theorem dM_row_106 : decode cM_row 106 = .ok (.aload_n 0, 1) := by decide +kernel
theorem dM_row_107 : decode cM_row 107 = .ok (.dup, 1) := by decide +kernel
theorem dM_row_108 : decode cM_row 108 = .ok (.getfield 220, 3) := by decide +kernel
theorem dM_row_111 : decode cM_row 111 = .ok (.iconst 1, 1) := by decide +kernel
theorem dM_row_112 : decode cM_row 112 = .ok (.iadd, 1) := by decide +kernel
theorem dM_row_113 : decode cM_row 113 = .ok (.putfield 220, 3) := by decide +kernel
theorem dM_row_116 : decode cM_row 116 = .ok (.aload_n 0, 1) := by decide +kernel
theorem dM_row_117 : decode cM_row 117 = .ok (.getfield 220, 3) := by decide +kernel
theorem dM_row_120 : decode cM_row 120 = .ok (.ireturn, 1) := by decide +kernel
theorem dM_and_0 : decode cM_and 0 = .ok (.aload_n 0, 1) := by decide +kernel
theorem dM_and_1 : decode cM_and 1 = .ok (.aload_n 0, 1) := by decide +kernel
theorem dM_and_2 : decode cM_and 2 = .ok (.getfield 220, 3) := by decide +kernel
theorem dM_and_5 : decode cM_and 5 = .ok (.iconst 2, 1) := by decide +kernel
theorem dM_and_6 : decode cM_and 6 = .ok (.if_icmp .ge 7, 3) := by decide +kernel
theorem dM_and_9 : decode cM_and 9 = .ok (.iconst 1, 1) := by decide +kernel
theorem dM_and_10 : decode cM_and 10 = .ok (.goto 4, 3) := by decide +kernel
theorem dM_and_13 : decode cM_and 13 = .ok (.iconst 0, 1) := by decide +kernel
theorem dM_and_14 : decode cM_and 14 = .ok (.putfield 66, 3) := by decide +kernel
theorem dM_and_17 : decode cM_and 17 = .ok (.aload_n 0, 1) := by decide +kernel
theorem dM_and_18 : decode cM_and 18 = .ok (.getfield 66, 3) := by decide +kernel
theorem dM_and_21 : decode cM_and 21 = .ok (.ifCond .le 4, 3) := by decide +kernel
theorem dM_and_24 : decode cM_and 24 = .ok (.return_, 1) := by decide +kernel
theorem dM_and_25 : decode cM_and 25 = .ok (.aload_n 0, 1) := by decide +kernel
theorem dM_and_26 : decode cM_and 26 = .ok (.iconst 0, 1) := by decide +kernel
theorem dM_and_27 : decode cM_and 27 = .ok (.putfield 181, 3) := by decide +kernel
theorem dM_and_30 : decode cM_and 30 = .ok (.aload_n 0, 1) := by decide +kernel
theorem dM_and_31 : decode cM_and 31 = .ok (.bipush 10, 2) := by decide +kernel
theorem dM_and_33 : decode cM_and 33 = .ok (.aload_n 0, 1) := by decide +kernel
theorem dM_and_34 : decode cM_and 34 = .ok (.getfield 220, 3) := by decide +kernel
theorem dM_and_37 : decode cM_and 37 = .ok (.iconst 2, 1) := by decide +kernel
theorem dM_and_38 : decode cM_and 38 = .ok (.isub, 1) := by decide +kernel
theorem dM_and_39 : decode cM_and 39 = .ok (.aload_n 0, 1) := by decide +kernel
theorem dM_and_40 : decode cM_and 40 = .ok (.getfield 220, 3) := by decide +kernel
theorem dM_and_43 : decode cM_and 43 = .ok (.iconst 1, 1) := by decide +kernel
theorem dM_and_44 : decode cM_and 44 = .ok (.isub, 1) := by decide +kernel
theorem dM_and_45 : decode cM_and 45 = .ok (.invokevirtual 211, 3) := by decide +kernel
theorem dM_and_48 : decode cM_and 48 = .ok (.aload_n 0, 1) := by decide +kernel
theorem dM_and_49 : decode cM_and 49 = .ok (.aload_n 0, 1) := by decide +kernel
theorem dM_and_50 : decode cM_and 50 = .ok (.getfield 181, 3) := by decide +kernel
theorem dM_and_53 : decode cM_and 53 = .ok (.ifCond .eq 7, 3) := by decide +kernel
theorem dM_and_56 : decode cM_and 56 = .ok (.iconst 2, 1) := by decide +kernel
theorem dM_and_57 : decode cM_and 57 = .ok (.goto 4, 3) := by decide +kernel
theorem dM_and_60 : decode cM_and 60 = .ok (.iconst 0, 1) := by decide +kernel
theorem dM_and_61 : decode cM_and 61 = .ok (.putfield 66, 3) := by decide +kernel
theorem dM_and_64 : decode cM_and 64 = .ok (.aload_n 0, 1) := by decide +kernel
theorem dM_and_65 : decode cM_and 65 = .ok (.getfield 181, 3) := by decide +kernel
theorem dM_and_68 : decode cM_and 68 = .ok (.ifCond .eq 4, 3) := by decide +kernel
theorem dM_and_71 : decode cM_and 71 = .ok (.return_, 1) := by decide +kernel
theorem dM_and_72 : decode cM_and 72 = .ok (.aload_n 0, 1) := by decide +kernel
theorem dM_and_73 : decode cM_and 73 = .ok (.dup, 1) := by decide +kernel
theorem dM_and_74 : decode cM_and 74 = .ok (.getfield 220, 3) := by decide +kernel
theorem dM_and_77 : decode cM_and 77 = .ok (.iconst 1, 1) := by decide +kernel
theorem dM_and_78 : decode cM_and 78 = .ok (.isub, 1) := by decide +kernel
theorem dM_and_79 : decode cM_and 79 = .ok (.putfield 220, 3) := by decide +kernel
theorem dM_and_82 : decode cM_and 82 = .ok (.aload_n 0, 1) := by decide +kernel
theorem dM_and_83 : decode cM_and 83 = .ok (.aload_n 0, 1) := by decide +kernel
theorem dM_and_84 : decode cM_and 84 = .ok (.getfield 220, 3) := by decide +kernel
theorem dM_and_87 : decode cM_and 87 = .ok (.iconst 1, 1) := by decide +kernel
theorem dM_and_88 : decode cM_and 88 = .ok (.isub, 1) := by decide +kernel
theorem dM_and_89 : decode cM_and 89 = .ok (.bipush 10, 2) := by decide +kernel
theorem dM_and_91 : decode cM_and 91 = .ok (.invokevirtual 214, 3) := by decide +kernel
theorem dM_and_94 : decode cM_and 94 = .ok (.return_, 1) := by decide +kernel
theorem dM_or_0 : decode cM_or 0 = .ok (.aload_n 0, 1) := by decide +kernel
theorem dM_or_1 : decode cM_or 1 = .ok (.aload_n 0, 1) := by decide +kernel
theorem dM_or_2 : decode cM_or 2 = .ok (.getfield 220, 3) := by decide +kernel
theorem dM_or_5 : decode cM_or 5 = .ok (.iconst 2, 1) := by decide +kernel
theorem dM_or_6 : decode cM_or 6 = .ok (.if_icmp .ge 7, 3) := by decide +kernel
theorem dM_or_9 : decode cM_or 9 = .ok (.iconst 1, 1) := by decide +kernel
theorem dM_or_10 : decode cM_or 10 = .ok (.goto 4, 3) := by decide +kernel
theorem dM_or_13 : decode cM_or 13 = .ok (.iconst 0, 1) := by decide +kernel
theorem dM_or_14 : decode cM_or 14 = .ok (.putfield 66, 3) := by decide +kernel
theorem dM_or_17 : decode cM_or 17 = .ok (.aload_n 0, 1) := by decide +kernel
theorem dM_or_18 : decode cM_or 18 = .ok (.getfield 66, 3) := by decide +kernel
theorem dM_or_21 : decode cM_or 21 = .ok (.ifCond .le 4, 3) := by decide +kernel
theorem dM_or_24 : decode cM_or 24 = .ok (.return_, 1) := by decide +kernel
theorem dM_or_25 : decode cM_or 25 = .ok (.aload_n 0, 1) := by decide +kernel
theorem dM_or_26 : decode cM_or 26 = .ok (.iconst 0, 1) := by decide +kernel
theorem dM_or_27 : decode cM_or 27 = .ok (.putfield 181, 3) := by decide +kernel
theorem dM_or_30 : decode cM_or 30 = .ok (.aload_n 0, 1) := by decide +kernel
theorem dM_or_31 : decode cM_or 31 = .ok (.bipush 10, 2) := by decide +kernel
theorem dM_or_33 : decode cM_or 33 = .ok (.aload_n 0, 1) := by decide +kernel
theorem dM_or_34 : decode cM_or 34 = .ok (.getfield 220, 3) := by decide +kernel
theorem dM_or_37 : decode cM_or 37 = .ok (.iconst 2, 1) := by decide +kernel
theorem dM_or_38 : decode cM_or 38 = .ok (.isub, 1) := by decide +kernel
theorem dM_or_39 : decode cM_or 39 = .ok (.invokevirtual 214, 3) := by decide +kernel
theorem dM_or_42 : decode cM_or 42 = .ok (.iconst 0, 1) := by decide +kernel
theorem dM_or_43 : decode cM_or 43 = .ok (.istore_n 1, 1) := by decide +kernel
theorem dM_or_44 : decode cM_or 44 = .ok (.iload_n 1, 1) := by decide +kernel
theorem dM_or_45 : decode cM_or 45 = .ok (.aload_n 0, 1) := by decide +kernel
theorem dM_or_46 : decode cM_or 46 = .ok (.getfield 7, 3) := by decide +kernel
theorem dM_or_49 : decode cM_or 49 = .ok (.aload_n 0, 1) := by decide +kernel
theorem dM_or_50 : decode cM_or 50 = .ok (.getfield 220, 3) := by decide +kernel
theorem dM_or_53 : decode cM_or 53 = .ok (.iconst 1, 1) := by decide +kernel
theorem dM_or_54 : decode cM_or 54 = .ok (.isub, 1) := by decide +kernel
theorem dM_or_55 : decode cM_or 55 = .ok (.iaload, 1) := by decide +kernel
theorem dM_or_56 : decode cM_or 56 = .ok (.if_icmp .ge 53, 3) := by decide +kernel
theorem dM_or_59 : decode cM_or 59 = .ok (.aload_n 0, 1) := by decide +kernel
theorem dM_or_60 : decode cM_or 60 = .ok (.getfield 181, 3) := by decide +kernel
theorem dM_or_63 : decode cM_or 63 = .ok (.ifCond .ne 46, 3) := by decide +kernel
theorem dM_or_66 : decode cM_or 66 = .ok (.aload_n 0, 1) := by decide +kernel
theorem dM_or_67 : decode cM_or 67 = .ok (.invokevirtual 198, 3) := by decide +kernel
theorem dM_or_70 : decode cM_or 70 = .ok (.aload_n 0, 1) := by decide +kernel
theorem dM_or_71 : decode cM_or 71 = .ok (.aload_n 0, 1) := by decide +kernel
theorem dM_or_72 : decode cM_or 72 = .ok (.getfield 220, 3) := by decide +kernel
theorem dM_or_75 : decode cM_or 75 = .ok (.iconst 1, 1) := by decide +kernel
theorem dM_or_76 : decode cM_or 76 = .ok (.isub, 1) := by decide +kernel
theorem dM_or_77 : decode cM_or 77 = .ok (.iload_n 1, 1) := by decide +kernel
theorem dM_or_78 : decode cM_or 78 = .ok (.aload_n 0, 1) := by decide +kernel
theorem dM_or_79 : decode cM_or 79 = .ok (.getfield 13, 3) := by decide +kernel
theorem dM_or_82 : decode cM_or 82 = .ok (.bipush 12, 2) := by decide +kernel
theorem dM_or_84 : decode cM_or 84 = .ok (.aload_n 0, 1) := by decide +kernel
theorem dM_or_85 : decode cM_or 85 = .ok (.getfield 220, 3) := by decide +kernel
theorem dM_or_88 : decode cM_or 88 = .ok (.iconst 1, 1) := by decide +kernel
theorem dM_or_89 : decode cM_or 89 = .ok (.isub, 1) := by decide +kernel
theorem dM_or_90 : decode cM_or 90 = .ok (.imul, 1) := by decide +kernel
theorem dM_or_91 : decode cM_or 91 = .ok (.iload_n 1, 1) := by decide +kernel
theorem dM_or_92 : decode cM_or 92 = .ok (.iadd, 1) := by decide +kernel
theorem dM_or_93 : decode cM_or 93 = .ok (.iaload, 1) := by decide +kernel
theorem dM_or_94 : decode cM_or 94 = .ok (.invokevirtual 201, 3) := by decide +kernel
theorem dM_or_97 : decode cM_or 97 = .ok (.aload_n 0, 1) := by decide +kernel
theorem dM_or_98 : decode cM_or 98 = .ok (.bipush 10, 2) := by decide +kernel
theorem dM_or_100 : decode cM_or 100 = .ok (.invokevirtual 205, 3) := by decide +kernel
theorem dM_or_103 : decode cM_or 103 = .ok (.iinc 1 1, 3) := by decide +kernel
theorem dM_or_106 : decode cM_or 106 = .ok (.goto (-62), 3) := by decide +kernel
theorem dM_or_109 : decode cM_or 109 = .ok (.aload_n 0, 1) := by decide +kernel
theorem dM_or_110 : decode cM_or 110 = .ok (.aload_n 0, 1) := by decide +kernel
theorem dM_or_111 : decode cM_or 111 = .ok (.getfield 181, 3) := by decide +kernel
theorem dM_or_114 : decode cM_or 114 = .ok (.ifCond .eq 7, 3) := by decide +kernel
theorem dM_or_117 : decode cM_or 117 = .ok (.iconst 2, 1) := by decide +kernel
theorem dM_or_118 : decode cM_or 118 = .ok (.goto 4, 3) := by decide +kernel
theorem dM_or_121 : decode cM_or 121 = .ok (.iconst 0, 1) := by decide +kernel
theorem dM_or_122 : decode cM_or 122 = .ok (.putfield 66, 3) := by decide +kernel
theorem dM_or_125 : decode cM_or 125 = .ok (.aload_n 0, 1) := by decide +kernel
theorem dM_or_126 : decode cM_or 126 = .ok (.getfield 181, 3) := by decide +kernel
theorem dM_or_129 : decode cM_or 129 = .ok (.ifCond .eq 4, 3) := by decide +kernel
theorem dM_or_132 : decode cM_or 132 = .ok (.return_, 1) := by decide +kernel
theorem dM_or_133 : decode cM_or 133 = .ok (.aload_n 0, 1) := by decide +kernel
theorem dM_or_134 : decode cM_or 134 = .ok (.dup, 1) := by decide +kernel
theorem dM_or_135 : decode cM_or 135 = .ok (.getfield 220, 3) := by decide +kernel
theorem dM_or_138 : decode cM_or 138 = .ok (.iconst 1, 1) := by decide +kernel
theorem dM_or_139 : decode cM_or 139 = .ok (.isub, 1) := by decide +kernel
theorem dM_or_140 : decode cM_or 140 = .ok (.putfield 220, 3) := by decide +kernel
theorem dM_or_143 : decode cM_or 143 = .ok (.aload_n 0, 1) := by decide +kernel
theorem dM_or_144 : decode cM_or 144 = .ok (.aload_n 0, 1) := by decide +kernel
theorem dM_or_145 : decode cM_or 145 = .ok (.getfield 220, 3) := by decide +kernel
theorem dM_or_148 : decode cM_or 148 = .ok (.iconst 1, 1) := by decide +kernel
theorem dM_or_149 : decode cM_or 149 = .ok (.isub, 1) := by decide +kernel
theorem dM_or_150 : decode cM_or 150 = .ok (.bipush 10, 2) := by decide +kernel
theorem dM_or_152 : decode cM_or 152 = .ok (.invokevirtual 214, 3) := by decide +kernel
theorem dM_or_155 : decode cM_or 155 = .ok (.return_, 1) := by decide +kernel
theorem dM_not_0 : decode cM_not 0 = .ok (.aload_n 0, 1) := by decide +kernel
theorem dM_not_1 : decode cM_not 1 = .ok (.aload_n 0, 1) := by decide +kernel
theorem dM_not_2 : decode cM_not 2 = .ok (.getfield 220, 3) := by decide +kernel
theorem dM_not_5 : decode cM_not 5 = .ok (.iconst 1, 1) := by decide +kernel
theorem dM_not_6 : decode cM_not 6 = .ok (.if_icmp .ge 7, 3) := by decide +kernel
theorem dM_not_9 : decode cM_not 9 = .ok (.iconst 1, 1) := by decide +kernel
theorem dM_not_10 : decode cM_not 10 = .ok (.goto 4, 3) := by decide +kernel
theorem dM_not_13 : decode cM_not 13 = .ok (.iconst 0, 1) := by decide +kernel
theorem dM_not_14 : decode cM_not 14 = .ok (.putfield 66, 3) := by decide +kernel
theorem dM_not_17 : decode cM_not 17 = .ok (.aload_n 0, 1) := by decide +kernel
theorem dM_not_18 : decode cM_not 18 = .ok (.getfield 66, 3) := by decide +kernel
theorem dM_not_21 : decode cM_not 21 = .ok (.ifCond .le 4, 3) := by decide +kernel
theorem dM_not_24 : decode cM_not 24 = .ok (.return_, 1) := by decide +kernel
theorem dM_not_25 : decode cM_not 25 = .ok (.aload_n 0, 1) := by decide +kernel
theorem dM_not_26 : decode cM_not 26 = .ok (.iconst 0, 1) := by decide +kernel
theorem dM_not_27 : decode cM_not 27 = .ok (.putfield 181, 3) := by decide +kernel
theorem dM_not_30 : decode cM_not 30 = .ok (.aload_n 0, 1) := by decide +kernel
theorem dM_not_31 : decode cM_not 31 = .ok (.aload_n 0, 1) := by decide +kernel
theorem dM_not_32 : decode cM_not 32 = .ok (.getfield 220, 3) := by decide +kernel
theorem dM_not_35 : decode cM_not 35 = .ok (.iconst 1, 1) := by decide +kernel
theorem dM_not_36 : decode cM_not 36 = .ok (.isub, 1) := by decide +kernel
theorem dM_not_37 : decode cM_not 37 = .ok (.invokevirtual 223, 3) := by decide +kernel
theorem dM_not_40 : decode cM_not 40 = .ok (.aload_n 0, 1) := by decide +kernel
theorem dM_not_41 : decode cM_not 41 = .ok (.aload_n 0, 1) := by decide +kernel
theorem dM_not_42 : decode cM_not 42 = .ok (.getfield 181, 3) := by decide +kernel
theorem dM_not_45 : decode cM_not 45 = .ok (.ifCond .eq 7, 3) := by decide +kernel
theorem dM_not_48 : decode cM_not 48 = .ok (.iconst 2, 1) := by decide +kernel
theorem dM_not_49 : decode cM_not 49 = .ok (.goto 4, 3) := by decide +kernel
theorem dM_not_52 : decode cM_not 52 = .ok (.iconst 0, 1) := by decide +kernel
theorem dM_not_53 : decode cM_not 53 = .ok (.putfield 66, 3) := by decide +kernel
theorem dM_not_56 : decode cM_not 56 = .ok (.aload_n 0, 1) := by decide +kernel
theorem dM_not_57 : decode cM_not 57 = .ok (.getfield 181, 3) := by decide +kernel
theorem dM_not_60 : decode cM_not 60 = .ok (.ifCond .ne 15, 3) := by decide +kernel
theorem dM_not_63 : decode cM_not 63 = .ok (.aload_n 0, 1) := by decide +kernel
theorem dM_not_64 : decode cM_not 64 = .ok (.aload_n 0, 1) := by decide +kernel
theorem dM_not_65 : decode cM_not 65 = .ok (.getfield 220, 3) := by decide +kernel
theorem dM_not_68 : decode cM_not 68 = .ok (.iconst 1, 1) := by decide +kernel
theorem dM_not_69 : decode cM_not 69 = .ok (.isub, 1) := by decide +kernel
theorem dM_not_70 : decode cM_not 70 = .ok (.bipush 12, 2) := by decide +kernel
theorem dM_not_72 : decode cM_not 72 = .ok (.invokevirtual 214, 3) := by decide +kernel
theorem dM_not_75 : decode cM_not 75 = .ok (.return_, 1) := by decide +kernel
theorem dM_free_0 : decode cM_free 0 = .ok (.aload_n 0, 1) := by decide +kernel
theorem dM_free_1 : decode cM_free 1 = .ok (.iload_n 1, 1) := by decide +kernel
theorem dM_free_2 : decode cM_free 2 = .ok (.ifCond .lt 8, 3) := by decide +kernel
theorem dM_free_5 : decode cM_free 5 = .ok (.iload_n 1, 1) := by decide +kernel
theorem dM_free_6 : decode cM_free 6 = .ok (.iconst 1, 1) := by decide +kernel
theorem dM_free_7 : decode cM_free 7 = .ok (.if_icmp .le 7, 3) := by decide +kernel
theorem dM_free_10 : decode cM_free 10 = .ok (.iconst 1, 1) := by decide +kernel
theorem dM_free_11 : decode cM_free 11 = .ok (.goto 16, 3) := by decide +kernel
theorem dM_free_14 : decode cM_free 14 = .ok (.aload_n 0, 1) := by decide +kernel
theorem dM_free_15 : decode cM_free 15 = .ok (.getfield 220, 3) := by decide +kernel
theorem dM_free_18 : decode cM_free 18 = .ok (.iconst 1, 1) := by decide +kernel
theorem dM_free_19 : decode cM_free 19 = .ok (.if_icmp .ge 7, 3) := by decide +kernel
theorem dM_free_22 : decode cM_free 22 = .ok (.iconst 2, 1) := by decide +kernel
theorem dM_free_23 : decode cM_free 23 = .ok (.goto 4, 3) := by decide +kernel
theorem dM_free_26 : decode cM_free 26 = .ok (.iconst 0, 1) := by decide +kernel
theorem dM_free_27 : decode cM_free 27 = .ok (.putfield 66, 3) := by decide +kernel
theorem dM_free_30 : decode cM_free 30 = .ok (.aload_n 0, 1) := by decide +kernel
theorem dM_free_31 : decode cM_free 31 = .ok (.getfield 66, 3) := by decide +kernel
theorem dM_free_34 : decode cM_free 34 = .ok (.ifCond .le 4, 3) := by decide +kernel
theorem dM_free_37 : decode cM_free 37 = .ok (.return_, 1) := by decide +kernel
theorem dM_free_38 : decode cM_free 38 = .ok (.aload_n 0, 1) := by decide +kernel
theorem dM_free_39 : decode cM_free 39 = .ok (.iconst 0, 1) := by decide +kernel
theorem dM_free_40 : decode cM_free 40 = .ok (.putfield 181, 3) := by decide +kernel
theorem dM_free_43 : decode cM_free 43 = .ok (.aload_n 0, 1) := by decide +kernel
theorem dM_free_44 : decode cM_free 44 = .ok (.getfield 7, 3) := by decide +kernel
theorem dM_free_47 : decode cM_free 47 = .ok (.bipush 10, 2) := by decide +kernel
theorem dM_free_49 : decode cM_free 49 = .ok (.iconst 0, 1) := by decide +kernel
theorem dM_free_50 : decode cM_free 50 = .ok (.iastore, 1) := by decide +kernel
theorem dM_free_51 : decode cM_free 51 = .ok (.iconst 0, 1) := by decide +kernel
theorem dM_free_52 : decode cM_free 52 = .ok (.istore_n 2, 1) := by decide +kernel
theorem dM_free_53 : decode cM_free 53 = .ok (.iload_n 2, 1) := by decide +kernel
theorem dM_free_54 : decode cM_free 54 = .ok (.aload_n 0, 1) := by decide +kernel
theorem dM_free_55 : decode cM_free 55 = .ok (.getfield 7, 3) := by decide +kernel
theorem dM_free_58 : decode cM_free 58 = .ok (.aload_n 0, 1) := by decide +kernel
theorem dM_free_59 : decode cM_free 59 = .ok (.getfield 220, 3) := by decide +kernel
theorem dM_free_62 : decode cM_free 62 = .ok (.iconst 1, 1) := by decide +kernel
theorem dM_free_63 : decode cM_free 63 = .ok (.isub, 1) := by decide +kernel
theorem dM_free_64 : decode cM_free 64 = .ok (.iaload, 1) := by decide +kernel
theorem dM_free_65 : decode cM_free 65 = .ok (.if_icmp .ge 38, 3) := by decide +kernel
theorem dM_free_68 : decode cM_free 68 = .ok (.aload_n 0, 1) := by decide +kernel
theorem dM_free_69 : decode cM_free 69 = .ok (.getfield 181, 3) := by decide +kernel
theorem dM_free_72 : decode cM_free 72 = .ok (.ifCond .ne 31, 3) := by decide +kernel
theorem dM_free_75 : decode cM_free 75 = .ok (.aload_n 0, 1) := by decide +kernel
theorem dM_free_76 : decode cM_free 76 = .ok (.invokevirtual 198, 3) := by decide +kernel
theorem dM_free_79 : decode cM_free 79 = .ok (.aload_n 0, 1) := by decide +kernel
theorem dM_free_80 : decode cM_free 80 = .ok (.aload_n 0, 1) := by decide +kernel
theorem dM_free_81 : decode cM_free 81 = .ok (.getfield 220, 3) := by decide +kernel
theorem dM_free_84 : decode cM_free 84 = .ok (.iconst 1, 1) := by decide +kernel
theorem dM_free_85 : decode cM_free 85 = .ok (.isub, 1) := by decide +kernel
theorem dM_free_86 : decode cM_free 86 = .ok (.iload_n 2, 1) := by decide +kernel
theorem dM_free_87 : decode cM_free 87 = .ok (.iload_n 1, 1) := by decide +kernel
theorem dM_free_88 : decode cM_free 88 = .ok (.invokevirtual 226, 3) := by decide +kernel
theorem dM_free_91 : decode cM_free 91 = .ok (.aload_n 0, 1) := by decide +kernel
theorem dM_free_92 : decode cM_free 92 = .ok (.bipush 10, 2) := by decide +kernel
theorem dM_free_94 : decode cM_free 94 = .ok (.invokevirtual 205, 3) := by decide +kernel
theorem dM_free_97 : decode cM_free 97 = .ok (.iinc 2 1, 3) := by decide +kernel
theorem dM_free_100 : decode cM_free 100 = .ok (.goto (-47), 3) := by decide +kernel
theorem dM_free_103 : decode cM_free 103 = .ok (.aload_n 0, 1) := by decide +kernel
theorem dM_free_104 : decode cM_free 104 = .ok (.aload_n 0, 1) := by decide +kernel
theorem dM_free_105 : decode cM_free 105 = .ok (.getfield 181, 3) := by decide +kernel
theorem dM_free_108 : decode cM_free 108 = .ok (.ifCond .eq 7, 3) := by decide +kernel
theorem dM_free_111 : decode cM_free 111 = .ok (.iconst 3, 1) := by decide +kernel
theorem dM_free_112 : decode cM_free 112 = .ok (.goto 4, 3) := by decide +kernel
theorem dM_free_115 : decode cM_free 115 = .ok (.iconst 0, 1) := by decide +kernel
theorem dM_free_116 : decode cM_free 116 = .ok (.putfield 66, 3) := by decide +kernel
theorem dM_free_119 : decode cM_free 119 = .ok (.aload_n 0, 1) := by decide +kernel
theorem dM_free_120 : decode cM_free 120 = .ok (.getfield 181, 3) := by decide +kernel
theorem dM_free_123 : decode cM_free 123 = .ok (.ifCond .ne 15, 3) := by decide +kernel
theorem dM_free_126 : decode cM_free 126 = .ok (.aload_n 0, 1) := by decide +kernel
theorem dM_free_127 : decode cM_free 127 = .ok (.aload_n 0, 1) := by decide +kernel
theorem dM_free_128 : decode cM_free 128 = .ok (.getfield 220, 3) := by decide +kernel
theorem dM_free_131 : decode cM_free 131 = .ok (.iconst 1, 1) := by decide +kernel
theorem dM_free_132 : decode cM_free 132 = .ok (.isub, 1) := by decide +kernel
theorem dM_free_133 : decode cM_free 133 = .ok (.bipush 10, 2) := by decide +kernel
theorem dM_free_135 : decode cM_free 135 = .ok (.invokevirtual 214, 3) := by decide +kernel
theorem dM_free_138 : decode cM_free 138 = .ok (.return_, 1) := by decide +kernel
theorem dM_freed_0 : decode cM_freed 0 = .ok (.aload_n 0, 1) := by decide +kernel
theorem dM_freed_1 : decode cM_freed 1 = .ok (.getfield 13, 3) := by decide +kernel
theorem dM_freed_4 : decode cM_freed 4 = .ok (.bipush 12, 2) := by decide +kernel
theorem dM_freed_6 : decode cM_freed 6 = .ok (.iload_n 1, 1) := by decide +kernel
theorem dM_freed_7 : decode cM_freed 7 = .ok (.imul, 1) := by decide +kernel
theorem dM_freed_8 : decode cM_freed 8 = .ok (.iload_n 2, 1) := by decide +kernel
theorem dM_freed_9 : decode cM_freed 9 = .ok (.iadd, 1) := by decide +kernel
theorem dM_freed_10 : decode cM_freed 10 = .ok (.iaload, 1) := by decide +kernel
theorem dM_freed_11 : decode cM_freed 11 = .ok (.istore 4, 2) := by decide +kernel
theorem dM_freed_13 : decode cM_freed 13 = .ok (.iconst 0, 1) := by decide +kernel
theorem dM_freed_14 : decode cM_freed 14 = .ok (.istore 5, 2) := by decide +kernel
theorem dM_freed_16 : decode cM_freed 16 = .ok (.iload 5, 2) := by decide +kernel
theorem dM_freed_18 : decode cM_freed 18 = .ok (.iload 4, 2) := by decide +kernel
theorem dM_freed_20 : decode cM_freed 20 = .ok (.if_icmp .ge 249, 3) := by decide +kernel
theorem dM_freed_23 : decode cM_freed 23 = .ok (.iload_n 1, 1) := by decide +kernel
theorem dM_freed_24 : decode cM_freed 24 = .ok (.iload_n 2, 1) := by decide +kernel
theorem dM_freed_25 : decode cM_freed 25 = .ok (.iload 5, 2) := by decide +kernel
theorem dM_freed_27 : decode cM_freed 27 = .ok (.invokestatic 149, 3) := by decide +kernel
theorem dM_freed_30 : decode cM_freed 30 = .ok (.istore 6, 2) := by decide +kernel
theorem dM_freed_32 : decode cM_freed 32 = .ok (.iload_n 3, 1) := by decide +kernel
theorem dM_freed_33 : decode cM_freed 33 = .ok (.ifCond .ne 14, 3) := by decide +kernel
theorem dM_freed_36 : decode cM_freed 36 = .ok (.aload_n 0, 1) := by decide +kernel
theorem dM_freed_37 : decode cM_freed 37 = .ok (.getfield 16, 3) := by decide +kernel
theorem dM_freed_40 : decode cM_freed 40 = .ok (.iload 6, 2) := by decide +kernel
theorem dM_freed_42 : decode cM_freed 42 = .ok (.iaload, 1) := by decide +kernel
theorem dM_freed_43 : decode cM_freed 43 = .ok (.i2l, 1) := by decide +kernel
theorem dM_freed_44 : decode cM_freed 44 = .ok (.goto 11, 3) := by decide +kernel
theorem dM_freed_47 : decode cM_freed 47 = .ok (.aload_n 0, 1) := by decide +kernel
theorem dM_freed_48 : decode cM_freed 48 = .ok (.getfield 19, 3) := by decide +kernel
theorem dM_freed_51 : decode cM_freed 51 = .ok (.iload 6, 2) := by decide +kernel
theorem dM_freed_53 : decode cM_freed 53 = .ok (.iaload, 1) := by decide +kernel
theorem dM_freed_54 : decode cM_freed 54 = .ok (.i2l, 1) := by decide +kernel
theorem dM_freed_55 : decode cM_freed 55 = .ok (.lstore 7, 2) := by decide +kernel
theorem dM_freed_57 : decode cM_freed 57 = .ok (.lload 7, 2) := by decide +kernel
theorem dM_freed_59 : decode cM_freed 59 = .ok (.lconst 0, 1) := by decide +kernel
theorem dM_freed_60 : decode cM_freed 60 = .ok (.lcmp, 1) := by decide +kernel
theorem dM_freed_61 : decode cM_freed 61 = .ok (.ifCond .ne 38, 3) := by decide +kernel
theorem dM_freed_64 : decode cM_freed 64 = .ok (.aload_n 0, 1) := by decide +kernel
theorem dM_freed_65 : decode cM_freed 65 = .ok (.aload_n 0, 1) := by decide +kernel
theorem dM_freed_66 : decode cM_freed 66 = .ok (.getfield 16, 3) := by decide +kernel
theorem dM_freed_69 : decode cM_freed 69 = .ok (.iload 6, 2) := by decide +kernel
theorem dM_freed_71 : decode cM_freed 71 = .ok (.iaload, 1) := by decide +kernel
theorem dM_freed_72 : decode cM_freed 72 = .ok (.i2l, 1) := by decide +kernel
theorem dM_freed_73 : decode cM_freed 73 = .ok (.aload_n 0, 1) := by decide +kernel
theorem dM_freed_74 : decode cM_freed 74 = .ok (.getfield 19, 3) := by decide +kernel
theorem dM_freed_77 : decode cM_freed 77 = .ok (.iload 6, 2) := by decide +kernel
theorem dM_freed_79 : decode cM_freed 79 = .ok (.iaload, 1) := by decide +kernel
theorem dM_freed_80 : decode cM_freed 80 = .ok (.i2l, 1) := by decide +kernel
theorem dM_freed_81 : decode cM_freed 81 = .ok (.aload_n 0, 1) := by decide +kernel
theorem dM_freed_82 : decode cM_freed 82 = .ok (.getfield 22, 3) := by decide +kernel
theorem dM_freed_85 : decode cM_freed 85 = .ok (.iload 6, 2) := by decide +kernel
theorem dM_freed_87 : decode cM_freed 87 = .ok (.iaload, 1) := by decide +kernel
theorem dM_freed_88 : decode cM_freed 88 = .ok (.i2l, 1) := by decide +kernel
theorem dM_freed_89 : decode cM_freed 89 = .ok (.aload_n 0, 1) := by decide +kernel
theorem dM_freed_90 : decode cM_freed 90 = .ok (.getfield 25, 3) := by decide +kernel
theorem dM_freed_93 : decode cM_freed 93 = .ok (.iload 6, 2) := by decide +kernel
theorem dM_freed_95 : decode cM_freed 95 = .ok (.baload, 1) := by decide +kernel
theorem dM_freed_96 : decode cM_freed 96 = .ok (.invokevirtual 153, 3) := by decide +kernel
theorem dM_freed_99 : decode cM_freed 99 = .ok (.iconst 0, 1) := by decide +kernel
theorem dM_freed_100 : decode cM_freed 100 = .ok (.istore 9, 2) := by decide +kernel
theorem dM_freed_102 : decode cM_freed 102 = .ok (.iload 9, 2) := by decide +kernel
theorem dM_freed_104 : decode cM_freed 104 = .ok (.iload 4, 2) := by decide +kernel
theorem dM_freed_106 : decode cM_freed 106 = .ok (.if_icmp .ge 157, 3) := by decide +kernel
theorem dM_freed_109 : decode cM_freed 109 = .ok (.lload 7, 2) := by decide +kernel
theorem dM_freed_111 : decode cM_freed 111 = .ok (.lconst 0, 1) := by decide +kernel
theorem dM_freed_112 : decode cM_freed 112 = .ok (.lcmp, 1) := by decide +kernel
theorem dM_freed_113 : decode cM_freed 113 = .ok (.ifCond .le 150, 3) := by decide +kernel
theorem dM_freed_116 : decode cM_freed 116 = .ok (.iload_n 1, 1) := by decide +kernel
theorem dM_freed_117 : decode cM_freed 117 = .ok (.iload_n 2, 1) := by decide +kernel
theorem dM_freed_118 : decode cM_freed 118 = .ok (.iload 9, 2) := by decide +kernel
theorem dM_freed_120 : decode cM_freed 120 = .ok (.invokestatic 149, 3) := by decide +kernel
theorem dM_freed_123 : decode cM_freed 123 = .ok (.istore 10, 2) := by decide +kernel
theorem dM_freed_125 : decode cM_freed 125 = .ok (.iload_n 3, 1) := by decide +kernel
theorem dM_freed_126 : decode cM_freed 126 = .ok (.ifCond .ne 15, 3) := by decide +kernel
theorem dM_freed_129 : decode cM_freed 129 = .ok (.aload_n 0, 1) := by decide +kernel
theorem dM_freed_130 : decode cM_freed 130 = .ok (.getfield 16, 3) := by decide +kernel
theorem dM_freed_133 : decode cM_freed 133 = .ok (.iload 10, 2) := by decide +kernel
theorem dM_freed_135 : decode cM_freed 135 = .ok (.iaload, 1) := by decide +kernel
theorem dM_freed_136 : decode cM_freed 136 = .ok (.ineg, 1) := by decide +kernel
theorem dM_freed_137 : decode cM_freed 137 = .ok (.i2l, 1) := by decide +kernel
theorem dM_freed_138 : decode cM_freed 138 = .ok (.goto 12, 3) := by decide +kernel
theorem dM_freed_141 : decode cM_freed 141 = .ok (.aload_n 0, 1) := by decide +kernel
theorem dM_freed_142 : decode cM_freed 142 = .ok (.getfield 19, 3) := by decide +kernel
theorem dM_freed_145 : decode cM_freed 145 = .ok (.iload 10, 2) := by decide +kernel
theorem dM_freed_147 : decode cM_freed 147 = .ok (.iaload, 1) := by decide +kernel
theorem dM_freed_148 : decode cM_freed 148 = .ok (.ineg, 1) := by decide +kernel
theorem dM_freed_149 : decode cM_freed 149 = .ok (.i2l, 1) := by decide +kernel
theorem dM_freed_150 : decode cM_freed 150 = .ok (.lstore 11, 2) := by decide +kernel
theorem dM_freed_152 : decode cM_freed 152 = .ok (.lload 11, 2) := by decide +kernel
theorem dM_freed_154 : decode cM_freed 154 = .ok (.lconst 0, 1) := by decide +kernel
theorem dM_freed_155 : decode cM_freed 155 = .ok (.lcmp, 1) := by decide +kernel
theorem dM_freed_156 : decode cM_freed 156 = .ok (.ifCond .le 101, 3) := by decide +kernel
theorem dM_freed_159 : decode cM_freed 159 = .ok (.aload_n 0, 1) := by decide +kernel
theorem dM_freed_160 : decode cM_freed 160 = .ok (.lload 11, 2) := by decide +kernel
theorem dM_freed_162 : decode cM_freed 162 = .ok (.aload_n 0, 1) := by decide +kernel
theorem dM_freed_163 : decode cM_freed 163 = .ok (.getfield 16, 3) := by decide +kernel
theorem dM_freed_166 : decode cM_freed 166 = .ok (.iload 6, 2) := by decide +kernel
theorem dM_freed_168 : decode cM_freed 168 = .ok (.iaload, 1) := by decide +kernel
theorem dM_freed_169 : decode cM_freed 169 = .ok (.i2l, 1) := by decide +kernel
theorem dM_freed_170 : decode cM_freed 170 = .ok (.lmul, 1) := by decide +kernel
theorem dM_freed_171 : decode cM_freed 171 = .ok (.lload 7, 2) := by decide +kernel
theorem dM_freed_173 : decode cM_freed 173 = .ok (.aload_n 0, 1) := by decide +kernel
theorem dM_freed_174 : decode cM_freed 174 = .ok (.getfield 16, 3) := by decide +kernel
theorem dM_freed_177 : decode cM_freed 177 = .ok (.iload 10, 2) := by decide +kernel
theorem dM_freed_179 : decode cM_freed 179 = .ok (.iaload, 1) := by decide +kernel
theorem dM_freed_180 : decode cM_freed 180 = .ok (.i2l, 1) := by decide +kernel
theorem dM_freed_181 : decode cM_freed 181 = .ok (.lmul, 1) := by decide +kernel
theorem dM_freed_182 : decode cM_freed 182 = .ok (.ladd, 1) := by decide +kernel
theorem dM_freed_183 : decode cM_freed 183 = .ok (.lload 11, 2) := by decide +kernel
theorem dM_freed_185 : decode cM_freed 185 = .ok (.aload_n 0, 1) := by decide +kernel
theorem dM_freed_186 : decode cM_freed 186 = .ok (.getfield 19, 3) := by decide +kernel
theorem dM_freed_189 : decode cM_freed 189 = .ok (.iload 6, 2) := by decide +kernel
theorem dM_freed_191 : decode cM_freed 191 = .ok (.iaload, 1) := by decide +kernel
theorem dM_freed_192 : decode cM_freed 192 = .ok (.i2l, 1) := by decide +kernel
theorem dM_freed_193 : decode cM_freed 193 = .ok (.lmul, 1) := by decide +kernel
theorem dM_freed_194 : decode cM_freed 194 = .ok (.lload 7, 2) := by decide +kernel
theorem dM_freed_196 : decode cM_freed 196 = .ok (.aload_n 0, 1) := by decide +kernel
theorem dM_freed_197 : decode cM_freed 197 = .ok (.getfield 19, 3) := by decide +kernel
theorem dM_freed_200 : decode cM_freed 200 = .ok (.iload 10, 2) := by decide +kernel
theorem dM_freed_202 : decode cM_freed 202 = .ok (.iaload, 1) := by decide +kernel
theorem dM_freed_203 : decode cM_freed 203 = .ok (.i2l, 1) := by decide +kernel
theorem dM_freed_204 : decode cM_freed 204 = .ok (.lmul, 1) := by decide +kernel
theorem dM_freed_205 : decode cM_freed 205 = .ok (.ladd, 1) := by decide +kernel
theorem dM_freed_206 : decode cM_freed 206 = .ok (.lload 11, 2) := by decide +kernel
theorem dM_freed_208 : decode cM_freed 208 = .ok (.aload_n 0, 1) := by decide +kernel
theorem dM_freed_209 : decode cM_freed 209 = .ok (.getfield 22, 3) := by decide +kernel
theorem dM_freed_212 : decode cM_freed 212 = .ok (.iload 6, 2) := by decide +kernel
theorem dM_freed_214 : decode cM_freed 214 = .ok (.iaload, 1) := by decide +kernel
theorem dM_freed_215 : decode cM_freed 215 = .ok (.i2l, 1) := by decide +kernel
theorem dM_freed_216 : decode cM_freed 216 = .ok (.lmul, 1) := by decide +kernel
theorem dM_freed_217 : decode cM_freed 217 = .ok (.lload 7, 2) := by decide +kernel
theorem dM_freed_219 : decode cM_freed 219 = .ok (.aload_n 0, 1) := by decide +kernel
theorem dM_freed_220 : decode cM_freed 220 = .ok (.getfield 22, 3) := by decide +kernel
theorem dM_freed_223 : decode cM_freed 223 = .ok (.iload 10, 2) := by decide +kernel
theorem dM_freed_225 : decode cM_freed 225 = .ok (.iaload, 1) := by decide +kernel
theorem dM_freed_226 : decode cM_freed 226 = .ok (.i2l, 1) := by decide +kernel
theorem dM_freed_227 : decode cM_freed 227 = .ok (.lmul, 1) := by decide +kernel
theorem dM_freed_228 : decode cM_freed 228 = .ok (.ladd, 1) := by decide +kernel
theorem dM_freed_229 : decode cM_freed 229 = .ok (.aload_n 0, 1) := by decide +kernel
theorem dM_freed_230 : decode cM_freed 230 = .ok (.getfield 25, 3) := by decide +kernel
theorem dM_freed_233 : decode cM_freed 233 = .ok (.iload 6, 2) := by decide +kernel
theorem dM_freed_235 : decode cM_freed 235 = .ok (.baload, 1) := by decide +kernel
theorem dM_freed_236 : decode cM_freed 236 = .ok (.ifCond .ne 13, 3) := by decide +kernel
theorem dM_freed_239 : decode cM_freed 239 = .ok (.aload_n 0, 1) := by decide +kernel
theorem dM_freed_240 : decode cM_freed 240 = .ok (.getfield 25, 3) := by decide +kernel
theorem dM_freed_243 : decode cM_freed 243 = .ok (.iload 10, 2) := by decide +kernel
theorem dM_freed_245 : decode cM_freed 245 = .ok (.baload, 1) := by decide +kernel
theorem dM_freed_246 : decode cM_freed 246 = .ok (.ifCond .eq 7, 3) := by decide +kernel
theorem dM_freed_249 : decode cM_freed 249 = .ok (.iconst 1, 1) := by decide +kernel
theorem dM_freed_250 : decode cM_freed 250 = .ok (.goto 4, 3) := by decide +kernel
theorem dM_freed_253 : decode cM_freed 253 = .ok (.iconst 0, 1) := by decide +kernel
theorem dM_freed_254 : decode cM_freed 254 = .ok (.invokevirtual 153, 3) := by decide +kernel
theorem dM_freed_257 : decode cM_freed 257 = .ok (.iinc 9 1, 3) := by decide +kernel
theorem dM_freed_260 : decode cM_freed 260 = .ok (.goto (-158), 3) := by decide +kernel
theorem dM_freed_263 : decode cM_freed 263 = .ok (.iinc 5 1, 3) := by decide +kernel
theorem dM_freed_266 : decode cM_freed 266 = .ok (.goto (-250), 3) := by decide +kernel
theorem dM_freed_269 : decode cM_freed 269 = .ok (.return_, 1) := by decide +kernel
theorem dM_keep_0 : decode cM_keep 0 = .ok (.aload_n 0, 1) := by decide +kernel
theorem dM_keep_1 : decode cM_keep 1 = .ok (.iload_n 1, 1) := by decide +kernel
theorem dM_keep_2 : decode cM_keep 2 = .ok (.ifCond .lt 8, 3) := by decide +kernel
theorem dM_keep_5 : decode cM_keep 5 = .ok (.iload_n 1, 1) := by decide +kernel
theorem dM_keep_6 : decode cM_keep 6 = .ok (.iconst 3, 1) := by decide +kernel
theorem dM_keep_7 : decode cM_keep 7 = .ok (.if_icmp .le 7, 3) := by decide +kernel
theorem dM_keep_10 : decode cM_keep 10 = .ok (.iconst 1, 1) := by decide +kernel
theorem dM_keep_11 : decode cM_keep 11 = .ok (.goto 16, 3) := by decide +kernel
theorem dM_keep_14 : decode cM_keep 14 = .ok (.aload_n 0, 1) := by decide +kernel
theorem dM_keep_15 : decode cM_keep 15 = .ok (.getfield 220, 3) := by decide +kernel
theorem dM_keep_18 : decode cM_keep 18 = .ok (.iconst 1, 1) := by decide +kernel
theorem dM_keep_19 : decode cM_keep 19 = .ok (.if_icmp .ge 7, 3) := by decide +kernel
theorem dM_keep_22 : decode cM_keep 22 = .ok (.iconst 2, 1) := by decide +kernel
theorem dM_keep_23 : decode cM_keep 23 = .ok (.goto 4, 3) := by decide +kernel
theorem dM_keep_26 : decode cM_keep 26 = .ok (.iconst 0, 1) := by decide +kernel
theorem dM_keep_27 : decode cM_keep 27 = .ok (.putfield 66, 3) := by decide +kernel
theorem dM_keep_30 : decode cM_keep 30 = .ok (.aload_n 0, 1) := by decide +kernel
theorem dM_keep_31 : decode cM_keep 31 = .ok (.getfield 66, 3) := by decide +kernel
theorem dM_keep_34 : decode cM_keep 34 = .ok (.ifCond .le 4, 3) := by decide +kernel
theorem dM_keep_37 : decode cM_keep 37 = .ok (.return_, 1) := by decide +kernel
theorem dM_keep_38 : decode cM_keep 38 = .ok (.aload_n 0, 1) := by decide +kernel
theorem dM_keep_39 : decode cM_keep 39 = .ok (.dup, 1) := by decide +kernel
theorem dM_keep_40 : decode cM_keep 40 = .ok (.getfield 220, 3) := by decide +kernel
theorem dM_keep_43 : decode cM_keep 43 = .ok (.iconst 1, 1) := by decide +kernel
theorem dM_keep_44 : decode cM_keep 44 = .ok (.isub, 1) := by decide +kernel
theorem dM_keep_45 : decode cM_keep 45 = .ok (.putfield 220, 3) := by decide +kernel
theorem dM_keep_48 : decode cM_keep 48 = .ok (.aload_n 0, 1) := by decide +kernel
theorem dM_keep_49 : decode cM_keep 49 = .ok (.bipush 6, 2) := by decide +kernel
theorem dM_keep_51 : decode cM_keep 51 = .ok (.iload_n 1, 1) := by decide +kernel
theorem dM_keep_52 : decode cM_keep 52 = .ok (.iadd, 1) := by decide +kernel
theorem dM_keep_53 : decode cM_keep 53 = .ok (.aload_n 0, 1) := by decide +kernel
theorem dM_keep_54 : decode cM_keep 54 = .ok (.getfield 220, 3) := by decide +kernel
theorem dM_keep_57 : decode cM_keep 57 = .ok (.invokevirtual 214, 3) := by decide +kernel
theorem dM_keep_60 : decode cM_keep 60 = .ok (.return_, 1) := by decide +kernel
theorem dM_load_0 : decode cM_load 0 = .ok (.aload_n 0, 1) := by decide +kernel
theorem dM_load_1 : decode cM_load 1 = .ok (.iload_n 1, 1) := by decide +kernel
theorem dM_load_2 : decode cM_load 2 = .ok (.ifCond .lt 8, 3) := by decide +kernel
theorem dM_load_5 : decode cM_load 5 = .ok (.iload_n 1, 1) := by decide +kernel
theorem dM_load_6 : decode cM_load 6 = .ok (.iconst 3, 1) := by decide +kernel
theorem dM_load_7 : decode cM_load 7 = .ok (.if_icmp .le 7, 3) := by decide +kernel
theorem dM_load_10 : decode cM_load 10 = .ok (.iconst 1, 1) := by decide +kernel
theorem dM_load_11 : decode cM_load 11 = .ok (.goto 17, 3) := by decide +kernel
theorem dM_load_14 : decode cM_load 14 = .ok (.aload_n 0, 1) := by decide +kernel
theorem dM_load_15 : decode cM_load 15 = .ok (.getfield 220, 3) := by decide +kernel
theorem dM_load_18 : decode cM_load 18 = .ok (.bipush 6, 2) := by decide +kernel
theorem dM_load_20 : decode cM_load 20 = .ok (.if_icmp .ne 7, 3) := by decide +kernel
theorem dM_load_23 : decode cM_load 23 = .ok (.iconst 2, 1) := by decide +kernel
theorem dM_load_24 : decode cM_load 24 = .ok (.goto 4, 3) := by decide +kernel
theorem dM_load_27 : decode cM_load 27 = .ok (.iconst 0, 1) := by decide +kernel
theorem dM_load_28 : decode cM_load 28 = .ok (.putfield 66, 3) := by decide +kernel
theorem dM_load_31 : decode cM_load 31 = .ok (.aload_n 0, 1) := by decide +kernel
theorem dM_load_32 : decode cM_load 32 = .ok (.getfield 66, 3) := by decide +kernel
theorem dM_load_35 : decode cM_load 35 = .ok (.ifCond .le 5, 3) := by decide +kernel
theorem dM_load_38 : decode cM_load 38 = .ok (.iconst 0, 1) := by decide +kernel
theorem dM_load_39 : decode cM_load 39 = .ok (.ireturn, 1) := by decide +kernel
theorem dM_load_40 : decode cM_load 40 = .ok (.aload_n 0, 1) := by decide +kernel
theorem dM_load_41 : decode cM_load 41 = .ok (.aload_n 0, 1) := by decide +kernel
theorem dM_load_42 : decode cM_load 42 = .ok (.getfield 220, 3) := by decide +kernel
theorem dM_load_45 : decode cM_load 45 = .ok (.bipush 6, 2) := by decide +kernel
theorem dM_load_47 : decode cM_load 47 = .ok (.iload_n 1, 1) := by decide +kernel
theorem dM_load_48 : decode cM_load 48 = .ok (.iadd, 1) := by decide +kernel
theorem dM_load_49 : decode cM_load 49 = .ok (.invokevirtual 214, 3) := by decide +kernel
theorem dM_load_52 : decode cM_load 52 = .ok (.aload_n 0, 1) := by decide +kernel
theorem dM_load_53 : decode cM_load 53 = .ok (.dup, 1) := by decide +kernel
theorem dM_load_54 : decode cM_load 54 = .ok (.getfield 220, 3) := by decide +kernel
theorem dM_load_57 : decode cM_load 57 = .ok (.iconst 1, 1) := by decide +kernel
theorem dM_load_58 : decode cM_load 58 = .ok (.iadd, 1) := by decide +kernel
theorem dM_load_59 : decode cM_load 59 = .ok (.putfield 220, 3) := by decide +kernel
theorem dM_load_62 : decode cM_load 62 = .ok (.aload_n 0, 1) := by decide +kernel
theorem dM_load_63 : decode cM_load 63 = .ok (.getfield 220, 3) := by decide +kernel
theorem dM_load_66 : decode cM_load 66 = .ok (.ireturn, 1) := by decide +kernel
theorem dM_drop_0 : decode cM_drop 0 = .ok (.aload_n 0, 1) := by decide +kernel
theorem dM_drop_1 : decode cM_drop 1 = .ok (.iconst 0, 1) := by decide +kernel
theorem dM_drop_2 : decode cM_drop 2 = .ok (.putfield 66, 3) := by decide +kernel
theorem dM_drop_5 : decode cM_drop 5 = .ok (.aload_n 0, 1) := by decide +kernel
theorem dM_drop_6 : decode cM_drop 6 = .ok (.getfield 220, 3) := by decide +kernel
theorem dM_drop_9 : decode cM_drop 9 = .ok (.ifCond .ne 5, 3) := by decide +kernel
theorem dM_drop_12 : decode cM_drop 12 = .ok (.iconst 0, 1) := by decide +kernel
theorem dM_drop_13 : decode cM_drop 13 = .ok (.ireturn, 1) := by decide +kernel
theorem dM_drop_14 : decode cM_drop 14 = .ok (.aload_n 0, 1) := by decide +kernel
theorem dM_drop_15 : decode cM_drop 15 = .ok (.dup, 1) := by decide +kernel
theorem dM_drop_16 : decode cM_drop 16 = .ok (.getfield 220, 3) := by decide +kernel
theorem dM_drop_19 : decode cM_drop 19 = .ok (.iconst 1, 1) := by decide +kernel
theorem dM_drop_20 : decode cM_drop 20 = .ok (.isub, 1) := by decide +kernel
theorem dM_drop_21 : decode cM_drop 21 = .ok (.putfield 220, 3) := by decide +kernel
theorem dM_drop_24 : decode cM_drop 24 = .ok (.iconst 1, 1) := by decide +kernel
theorem dM_drop_25 : decode cM_drop 25 = .ok (.ireturn, 1) := by decide +kernel
theorem dM_pile_0 : decode cM_pile 0 = .ok (.aload_n 0, 1) := by decide +kernel
theorem dM_pile_1 : decode cM_pile 1 = .ok (.iconst 0, 1) := by decide +kernel
theorem dM_pile_2 : decode cM_pile 2 = .ok (.putfield 66, 3) := by decide +kernel
theorem dM_pile_5 : decode cM_pile 5 = .ok (.aload_n 0, 1) := by decide +kernel
theorem dM_pile_6 : decode cM_pile 6 = .ok (.getfield 220, 3) := by decide +kernel
theorem dM_pile_9 : decode cM_pile 9 = .ok (.ireturn, 1) := by decide +kernel
theorem dM_rows_0 : decode cM_rows 0 = .ok (.aload_n 0, 1) := by decide +kernel
theorem dM_rows_1 : decode cM_rows 1 = .ok (.aload_n 0, 1) := by decide +kernel
theorem dM_rows_2 : decode cM_rows 2 = .ok (.getfield 220, 3) := by decide +kernel
theorem dM_rows_5 : decode cM_rows 5 = .ok (.iconst 1, 1) := by decide +kernel
theorem dM_rows_6 : decode cM_rows 6 = .ok (.if_icmp .ge 7, 3) := by decide +kernel
