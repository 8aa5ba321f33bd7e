theorem dI_init_0 : decode cI_init 0 = .ok (.aload_n 0, 1) := by decide +kernel
theorem dI_init_1 : decode cI_init 1 = .ok (.invokespecial 3, 3) := by decide +kernel
theorem dI_init_4 : decode cI_init 4 = .ok (.return_, 1) := by decide +kernel
theorem dI_numerator_0 : decode cI_numerator 0 = .ok (.aload_n 0, 1) := by decide +kernel
theorem dI_numerator_1 : decode cI_numerator 1 = .ok (.getfield 9, 3) := by decide +kernel
theorem dI_numerator_4 : decode cI_numerator 4 = .ok (.lreturn, 1) := by decide +kernel
theorem dI_denominator_0 : decode cI_denominator 0 = .ok (.aload_n 0, 1) := by decide +kernel
theorem dI_denominator_1 : decode cI_denominator 1 = .ok (.getfield 15, 3) := by decide +kernel
theorem dI_denominator_4 : decode cI_denominator 4 = .ok (.lreturn, 1) := by decide +kernel
theorem dI_seek_0 : decode cI_seek 0 = .ok (.aload_n 0, 1) := by decide +kernel
theorem dI_seek_1 : decode cI_seek 1 = .ok (.invokevirtual 18, 3) := by decide +kernel
theorem dI_seek_4 : decode cI_seek 4 = .ok (.aload_n 1, 1) := by decide +kernel
theorem dI_seek_5 : decode cI_seek 5 = .ok (.invokevirtual 21, 3) := by decide +kernel
theorem dI_seek_8 : decode cI_seek 8 = .ok (.ifCond .ne 5, 3) := by decide +kernel
theorem dI_seek_11 : decode cI_seek 11 = .ok (.iconst 3, 1) := by decide +kernel
theorem dI_seek_12 : decode cI_seek 12 = .ok (.ireturn, 1) := by decide +kernel
theorem dI_seek_13 : decode cI_seek 13 = .ok (.iload_n 2, 1) := by decide +kernel
theorem dI_seek_14 : decode cI_seek 14 = .ok (.ifCond .ne 14, 3) := by decide +kernel
theorem dI_seek_17 : decode cI_seek 17 = .ok (.iload_n 3, 1) := by decide +kernel
theorem dI_seek_18 : decode cI_seek 18 = .ok (.ifCond .ne 10, 3) := by decide +kernel
theorem dI_seek_21 : decode cI_seek 21 = .ok (.aload_n 0, 1) := by decide +kernel
theorem dI_seek_22 : decode cI_seek 22 = .ok (.lconst 1, 1) := by decide +kernel
theorem dI_seek_23 : decode cI_seek 23 = .ok (.putfield 15, 3) := by decide +kernel
theorem dI_seek_26 : decode cI_seek 26 = .ok (.iconst 0, 1) := by decide +kernel
theorem dI_seek_27 : decode cI_seek 27 = .ok (.ireturn, 1) := by decide +kernel
theorem dI_seek_28 : decode cI_seek 28 = .ok (.iconst 0, 1) := by decide +kernel
theorem dI_seek_29 : decode cI_seek 29 = .ok (.istore 4, 2) := by decide +kernel
theorem dI_seek_31 : decode cI_seek 31 = .ok (.iload 4, 2) := by decide +kernel
theorem dI_seek_33 : decode cI_seek 33 = .ok (.aload_n 1, 1) := by decide +kernel
theorem dI_seek_34 : decode cI_seek 34 = .ok (.invokevirtual 21, 3) := by decide +kernel
theorem dI_seek_37 : decode cI_seek 37 = .ok (.if_icmp .ge 37, 3) := by decide +kernel
theorem dI_seek_40 : decode cI_seek 40 = .ok (.aload_n 0, 1) := by decide +kernel
theorem dI_seek_41 : decode cI_seek 41 = .ok (.aload_n 1, 1) := by decide +kernel
theorem dI_seek_42 : decode cI_seek 42 = .ok (.iload 4, 2) := by decide +kernel
theorem dI_seek_44 : decode cI_seek 44 = .ok (.iload_n 2, 1) := by decide +kernel
theorem dI_seek_45 : decode cI_seek 45 = .ok (.iload_n 3, 1) := by decide +kernel
theorem dI_seek_46 : decode cI_seek 46 = .ok (.invokevirtual 27, 3) := by decide +kernel
theorem dI_seek_49 : decode cI_seek 49 = .ok (.aload_n 0, 1) := by decide +kernel
theorem dI_seek_50 : decode cI_seek 50 = .ok (.getfield 31, 3) := by decide +kernel
theorem dI_seek_53 : decode cI_seek 53 = .ok (.lconst 0, 1) := by decide +kernel
theorem dI_seek_54 : decode cI_seek 54 = .ok (.lcmp, 1) := by decide +kernel
theorem dI_seek_55 : decode cI_seek 55 = .ok (.ifCond .ne 9, 3) := by decide +kernel
theorem dI_seek_58 : decode cI_seek 58 = .ok (.aload_n 0, 1) := by decide +kernel
theorem dI_seek_59 : decode cI_seek 59 = .ok (.invokevirtual 18, 3) := by decide +kernel
theorem dI_seek_62 : decode cI_seek 62 = .ok (.iconst 2, 1) := by decide +kernel
theorem dI_seek_63 : decode cI_seek 63 = .ok (.ireturn, 1) := by decide +kernel
theorem dI_seek_64 : decode cI_seek 64 = .ok (.aload_n 0, 1) := by decide +kernel
theorem dI_seek_65 : decode cI_seek 65 = .ok (.invokevirtual 34, 3) := by decide +kernel
theorem dI_seek_68 : decode cI_seek 68 = .ok (.iinc 4 1, 3) := by decide +kernel
theorem dI_seek_71 : decode cI_seek 71 = .ok (.goto (-40), 3) := by decide +kernel
theorem dI_seek_74 : decode cI_seek 74 = .ok (.aload_n 0, 1) := by decide +kernel
theorem dI_seek_75 : decode cI_seek 75 = .ok (.invokevirtual 37, 3) := by decide +kernel
theorem dI_seek_78 : decode cI_seek 78 = .ok (.aload_n 0, 1) := by decide +kernel
theorem dI_seek_79 : decode cI_seek 79 = .ok (.getfield 40, 3) := by decide +kernel
theorem dI_seek_82 : decode cI_seek 82 = .ok (.ifCond .eq 7, 3) := by decide +kernel
theorem dI_seek_85 : decode cI_seek 85 = .ok (.iconst 0, 1) := by decide +kernel
theorem dI_seek_86 : decode cI_seek 86 = .ok (.goto 4, 3) := by decide +kernel
theorem dI_seek_89 : decode cI_seek 89 = .ok (.iconst 1, 1) := by decide +kernel
theorem dI_seek_90 : decode cI_seek 90 = .ok (.ireturn, 1) := by decide +kernel
theorem dI_forget_0 : decode cI_forget 0 = .ok (.aload_n 0, 1) := by decide +kernel
theorem dI_forget_1 : decode cI_forget 1 = .ok (.lconst 0, 1) := by decide +kernel
theorem dI_forget_2 : decode cI_forget 2 = .ok (.putfield 9, 3) := by decide +kernel
theorem dI_forget_5 : decode cI_forget 5 = .ok (.aload_n 0, 1) := by decide +kernel
theorem dI_forget_6 : decode cI_forget 6 = .ok (.lconst 0, 1) := by decide +kernel
theorem dI_forget_7 : decode cI_forget 7 = .ok (.putfield 15, 3) := by decide +kernel
theorem dI_forget_10 : decode cI_forget 10 = .ok (.return_, 1) := by decide +kernel
theorem dI_lowerToRow_0 : decode cI_lowerToRow 0 = .ok (.aload_n 0, 1) := by decide +kernel
theorem dI_lowerToRow_1 : decode cI_lowerToRow 1 = .ok (.getfield 44, 3) := by decide +kernel
theorem dI_lowerToRow_4 : decode cI_lowerToRow 4 = .ok (.aload_n 0, 1) := by decide +kernel
theorem dI_lowerToRow_5 : decode cI_lowerToRow 5 = .ok (.getfield 15, 3) := by decide +kernel
theorem dI_lowerToRow_8 : decode cI_lowerToRow 8 = .ok (.lmul, 1) := by decide +kernel
theorem dI_lowerToRow_9 : decode cI_lowerToRow 9 = .ok (.lstore_n 1, 1) := by decide +kernel
theorem dI_lowerToRow_10 : decode cI_lowerToRow 10 = .ok (.aload_n 0, 1) := by decide +kernel
theorem dI_lowerToRow_11 : decode cI_lowerToRow 11 = .ok (.getfield 9, 3) := by decide +kernel
theorem dI_lowerToRow_14 : decode cI_lowerToRow 14 = .ok (.aload_n 0, 1) := by decide +kernel
theorem dI_lowerToRow_15 : decode cI_lowerToRow 15 = .ok (.getfield 31, 3) := by decide +kernel
theorem dI_lowerToRow_18 : decode cI_lowerToRow 18 = .ok (.lmul, 1) := by decide +kernel
theorem dI_lowerToRow_19 : decode cI_lowerToRow 19 = .ok (.lstore_n 3, 1) := by decide +kernel
theorem dI_lowerToRow_20 : decode cI_lowerToRow 20 = .ok (.aload_n 0, 1) := by decide +kernel
theorem dI_lowerToRow_21 : decode cI_lowerToRow 21 = .ok (.getfield 15, 3) := by decide +kernel
theorem dI_lowerToRow_24 : decode cI_lowerToRow 24 = .ok (.lconst 0, 1) := by decide +kernel
theorem dI_lowerToRow_25 : decode cI_lowerToRow 25 = .ok (.lcmp, 1) := by decide +kernel
theorem dI_lowerToRow_26 : decode cI_lowerToRow 26 = .ok (.ifCond .eq 9, 3) := by decide +kernel
theorem dI_lowerToRow_29 : decode cI_lowerToRow 29 = .ok (.lload_n 1, 1) := by decide +kernel
theorem dI_lowerToRow_30 : decode cI_lowerToRow 30 = .ok (.lload_n 3, 1) := by decide +kernel
theorem dI_lowerToRow_31 : decode cI_lowerToRow 31 = .ok (.lcmp, 1) := by decide +kernel
theorem dI_lowerToRow_32 : decode cI_lowerToRow 32 = .ok (.ifCond .ge 30, 3) := by decide +kernel
theorem dI_lowerToRow_35 : decode cI_lowerToRow 35 = .ok (.aload_n 0, 1) := by decide +kernel
theorem dI_lowerToRow_36 : decode cI_lowerToRow 36 = .ok (.aload_n 0, 1) := by decide +kernel
theorem dI_lowerToRow_37 : decode cI_lowerToRow 37 = .ok (.getfield 44, 3) := by decide +kernel
theorem dI_lowerToRow_40 : decode cI_lowerToRow 40 = .ok (.putfield 9, 3) := by decide +kernel
theorem dI_lowerToRow_43 : decode cI_lowerToRow 43 = .ok (.aload_n 0, 1) := by decide +kernel
theorem dI_lowerToRow_44 : decode cI_lowerToRow 44 = .ok (.aload_n 0, 1) := by decide +kernel
theorem dI_lowerToRow_45 : decode cI_lowerToRow 45 = .ok (.getfield 31, 3) := by decide +kernel
theorem dI_lowerToRow_48 : decode cI_lowerToRow 48 = .ok (.putfield 15, 3) := by decide +kernel
theorem dI_lowerToRow_51 : decode cI_lowerToRow 51 = .ok (.aload_n 0, 1) := by decide +kernel
theorem dI_lowerToRow_52 : decode cI_lowerToRow 52 = .ok (.aload_n 0, 1) := by decide +kernel
theorem dI_lowerToRow_53 : decode cI_lowerToRow 53 = .ok (.getfield 47, 3) := by decide +kernel
theorem dI_lowerToRow_56 : decode cI_lowerToRow 56 = .ok (.putfield 40, 3) := by decide +kernel
theorem dI_lowerToRow_59 : decode cI_lowerToRow 59 = .ok (.goto 21, 3) := by decide +kernel
theorem dI_lowerToRow_62 : decode cI_lowerToRow 62 = .ok (.lload_n 1, 1) := by decide +kernel
theorem dI_lowerToRow_63 : decode cI_lowerToRow 63 = .ok (.lload_n 3, 1) := by decide +kernel
theorem dI_lowerToRow_64 : decode cI_lowerToRow 64 = .ok (.lcmp, 1) := by decide +kernel
theorem dI_lowerToRow_65 : decode cI_lowerToRow 65 = .ok (.ifCond .ne 15, 3) := by decide +kernel
theorem dI_lowerToRow_68 : decode cI_lowerToRow 68 = .ok (.aload_n 0, 1) := by decide +kernel
theorem dI_lowerToRow_69 : decode cI_lowerToRow 69 = .ok (.getfield 47, 3) := by decide +kernel
theorem dI_lowerToRow_72 : decode cI_lowerToRow 72 = .ok (.ifCond .eq 8, 3) := by decide +kernel
theorem dI_lowerToRow_75 : decode cI_lowerToRow 75 = .ok (.aload_n 0, 1) := by decide +kernel
theorem dI_lowerToRow_76 : decode cI_lowerToRow 76 = .ok (.iconst 1, 1) := by decide +kernel
theorem dI_lowerToRow_77 : decode cI_lowerToRow 77 = .ok (.putfield 40, 3) := by decide +kernel
theorem dI_lowerToRow_80 : decode cI_lowerToRow 80 = .ok (.return_, 1) := by decide +kernel
theorem dI_reduce_0 : decode cI_reduce 0 = .ok (.aload_n 0, 1) := by decide +kernel
theorem dI_reduce_1 : decode cI_reduce 1 = .ok (.getfield 9, 3) := by decide +kernel
theorem dI_reduce_4 : decode cI_reduce 4 = .ok (.aload_n 0, 1) := by decide +kernel
theorem dI_reduce_5 : decode cI_reduce 5 = .ok (.getfield 15, 3) := by decide +kernel
theorem dI_reduce_8 : decode cI_reduce 8 = .ok (.invokestatic 50, 3) := by decide +kernel
theorem dI_reduce_11 : decode cI_reduce 11 = .ok (.lstore_n 1, 1) := by decide +kernel
theorem dI_reduce_12 : decode cI_reduce 12 = .ok (.lload_n 1, 1) := by decide +kernel
theorem dI_reduce_13 : decode cI_reduce 13 = .ok (.lconst 1, 1) := by decide +kernel
theorem dI_reduce_14 : decode cI_reduce 14 = .ok (.lcmp, 1) := by decide +kernel
theorem dI_reduce_15 : decode cI_reduce 15 = .ok (.ifCond .le 23, 3) := by decide +kernel
theorem dI_reduce_18 : decode cI_reduce 18 = .ok (.aload_n 0, 1) := by decide +kernel
theorem dI_reduce_19 : decode cI_reduce 19 = .ok (.dup, 1) := by decide +kernel
theorem dI_reduce_20 : decode cI_reduce 20 = .ok (.getfield 9, 3) := by decide +kernel
theorem dI_reduce_23 : decode cI_reduce 23 = .ok (.lload_n 1, 1) := by decide +kernel
theorem dI_reduce_24 : decode cI_reduce 24 = .ok (.ldiv, 1) := by decide +kernel
theorem dI_reduce_25 : decode cI_reduce 25 = .ok (.putfield 9, 3) := by decide +kernel
theorem dI_reduce_28 : decode cI_reduce 28 = .ok (.aload_n 0, 1) := by decide +kernel
theorem dI_reduce_29 : decode cI_reduce 29 = .ok (.dup, 1) := by decide +kernel
theorem dI_reduce_30 : decode cI_reduce 30 = .ok (.getfield 15, 3) := by decide +kernel
theorem dI_reduce_33 : decode cI_reduce 33 = .ok (.lload_n 1, 1) := by decide +kernel
theorem dI_reduce_34 : decode cI_reduce 34 = .ok (.ldiv, 1) := by decide +kernel
theorem dI_reduce_35 : decode cI_reduce 35 = .ok (.putfield 15, 3) := by decide +kernel
theorem dI_reduce_38 : decode cI_reduce 38 = .ok (.return_, 1) := by decide +kernel
theorem dI_seekInRow_0 : decode cI_seekInRow 0 = .ok (.aload_n 0, 1) := by decide +kernel
theorem dI_seekInRow_1 : decode cI_seekInRow 1 = .ok (.lconst 0, 1) := by decide +kernel
theorem dI_seekInRow_2 : decode cI_seekInRow 2 = .ok (.putfield 44, 3) := by decide +kernel
theorem dI_seekInRow_5 : decode cI_seekInRow 5 = .ok (.aload_n 0, 1) := by decide +kernel
theorem dI_seekInRow_6 : decode cI_seekInRow 6 = .ok (.lconst 0, 1) := by decide +kernel
theorem dI_seekInRow_7 : decode cI_seekInRow 7 = .ok (.putfield 31, 3) := by decide +kernel
theorem dI_seekInRow_10 : decode cI_seekInRow 10 = .ok (.iconst 0, 1) := by decide +kernel
theorem dI_seekInRow_11 : decode cI_seekInRow 11 = .ok (.istore 5, 2) := by decide +kernel
theorem dI_seekInRow_13 : decode cI_seekInRow 13 = .ok (.iload 5, 2) := by decide +kernel
theorem dI_seekInRow_15 : decode cI_seekInRow 15 = .ok (.aload_n 1, 1) := by decide +kernel
theorem dI_seekInRow_16 : decode cI_seekInRow 16 = .ok (.iload_n 2, 1) := by decide +kernel
theorem dI_seekInRow_17 : decode cI_seekInRow 17 = .ok (.invokevirtual 54, 3) := by decide +kernel
theorem dI_seekInRow_20 : decode cI_seekInRow 20 = .ok (.if_icmp .ge 87, 3) := by decide +kernel
theorem dI_seekInRow_23 : decode cI_seekInRow 23 = .ok (.aload_n 1, 1) := by decide +kernel
theorem dI_seekInRow_24 : decode cI_seekInRow 24 = .ok (.iload_n 2, 1) := by decide +kernel
theorem dI_seekInRow_25 : decode cI_seekInRow 25 = .ok (.iload 5, 2) := by decide +kernel
theorem dI_seekInRow_27 : decode cI_seekInRow 27 = .ok (.iload_n 3, 1) := by decide +kernel
theorem dI_seekInRow_28 : decode cI_seekInRow 28 = .ok (.iload 4, 2) := by decide +kernel
theorem dI_seekInRow_30 : decode cI_seekInRow 30 = .ok (.invokestatic 58, 3) := by decide +kernel
theorem dI_seekInRow_33 : decode cI_seekInRow 33 = .ok (.istore 6, 2) := by decide +kernel
theorem dI_seekInRow_35 : decode cI_seekInRow 35 = .ok (.iload 6, 2) := by decide +kernel
theorem dI_seekInRow_37 : decode cI_seekInRow 37 = .ok (.ifCond .ne 14, 3) := by decide +kernel
theorem dI_seekInRow_40 : decode cI_seekInRow 40 = .ok (.aload_n 0, 1) := by decide +kernel
theorem dI_seekInRow_41 : decode cI_seekInRow 41 = .ok (.aload_n 1, 1) := by decide +kernel
theorem dI_seekInRow_42 : decode cI_seekInRow 42 = .ok (.iload_n 2, 1) := by decide +kernel
theorem dI_seekInRow_43 : decode cI_seekInRow 43 = .ok (.iload 5, 2) := by decide +kernel
theorem dI_seekInRow_45 : decode cI_seekInRow 45 = .ok (.iload_n 3, 1) := by decide +kernel
theorem dI_seekInRow_46 : decode cI_seekInRow 46 = .ok (.iload 4, 2) := by decide +kernel
theorem dI_seekInRow_48 : decode cI_seekInRow 48 = .ok (.invokevirtual 62, 3) := by decide +kernel
theorem dI_seekInRow_51 : decode cI_seekInRow 51 = .ok (.iconst 0, 1) := by decide +kernel
theorem dI_seekInRow_52 : decode cI_seekInRow 52 = .ok (.istore 7, 2) := by decide +kernel
theorem dI_seekInRow_54 : decode cI_seekInRow 54 = .ok (.iload 6, 2) := by decide +kernel
theorem dI_seekInRow_56 : decode cI_seekInRow 56 = .ok (.ifCond .le 45, 3) := by decide +kernel
theorem dI_seekInRow_59 : decode cI_seekInRow 59 = .ok (.iload 7, 2) := by decide +kernel
theorem dI_seekInRow_61 : decode cI_seekInRow 61 = .ok (.aload_n 1, 1) := by decide +kernel
theorem dI_seekInRow_62 : decode cI_seekInRow 62 = .ok (.iload_n 2, 1) := by decide +kernel
theorem dI_seekInRow_63 : decode cI_seekInRow 63 = .ok (.invokevirtual 54, 3) := by decide +kernel
theorem dI_seekInRow_66 : decode cI_seekInRow 66 = .ok (.if_icmp .ge 35, 3) := by decide +kernel
theorem dI_seekInRow_69 : decode cI_seekInRow 69 = .ok (.aload_n 1, 1) := by decide +kernel
theorem dI_seekInRow_70 : decode cI_seekInRow 70 = .ok (.iload_n 2, 1) := by decide +kernel
theorem dI_seekInRow_71 : decode cI_seekInRow 71 = .ok (.iload 7, 2) := by decide +kernel
theorem dI_seekInRow_73 : decode cI_seekInRow 73 = .ok (.iload_n 3, 1) := by decide +kernel
theorem dI_seekInRow_74 : decode cI_seekInRow 74 = .ok (.iload 4, 2) := by decide +kernel
theorem dI_seekInRow_76 : decode cI_seekInRow 76 = .ok (.invokestatic 58, 3) := by decide +kernel
theorem dI_seekInRow_79 : decode cI_seekInRow 79 = .ok (.ifCond .ge 16, 3) := by decide +kernel
theorem dI_seekInRow_82 : decode cI_seekInRow 82 = .ok (.aload_n 0, 1) := by decide +kernel
theorem dI_seekInRow_83 : decode cI_seekInRow 83 = .ok (.aload_n 1, 1) := by decide +kernel
theorem dI_seekInRow_84 : decode cI_seekInRow 84 = .ok (.iload_n 2, 1) := by decide +kernel
theorem dI_seekInRow_85 : decode cI_seekInRow 85 = .ok (.iload 5, 2) := by decide +kernel
theorem dI_seekInRow_87 : decode cI_seekInRow 87 = .ok (.iload 7, 2) := by decide +kernel
theorem dI_seekInRow_89 : decode cI_seekInRow 89 = .ok (.iload_n 3, 1) := by decide +kernel
theorem dI_seekInRow_90 : decode cI_seekInRow 90 = .ok (.iload 4, 2) := by decide +kernel
theorem dI_seekInRow_92 : decode cI_seekInRow 92 = .ok (.invokevirtual 66, 3) := by decide +kernel
theorem dI_seekInRow_95 : decode cI_seekInRow 95 = .ok (.iinc 7 1, 3) := by decide +kernel
theorem dI_seekInRow_98 : decode cI_seekInRow 98 = .ok (.goto (-44), 3) := by decide +kernel
theorem dI_seekInRow_101 : decode cI_seekInRow 101 = .ok (.iinc 5 1, 3) := by decide +kernel
theorem dI_seekInRow_104 : decode cI_seekInRow 104 = .ok (.goto (-91), 3) := by decide +kernel
theorem dI_seekInRow_107 : decode cI_seekInRow 107 = .ok (.return_, 1) := by decide +kernel
theorem dI_side_0 : decode cI_side 0 = .ok (.aload_n 0, 1) := by decide +kernel
theorem dI_side_1 : decode cI_side 1 = .ok (.iload_n 1, 1) := by decide +kernel
theorem dI_side_2 : decode cI_side 2 = .ok (.iload_n 2, 1) := by decide +kernel
theorem dI_side_3 : decode cI_side 3 = .ok (.invokevirtual 70, 3) := by decide +kernel
theorem dI_side_6 : decode cI_side 6 = .ok (.iload_n 3, 1) := by decide +kernel
theorem dI_side_7 : decode cI_side 7 = .ok (.imul, 1) := by decide +kernel
theorem dI_side_8 : decode cI_side 8 = .ok (.aload_n 0, 1) := by decide +kernel
theorem dI_side_9 : decode cI_side 9 = .ok (.iload_n 1, 1) := by decide +kernel
theorem dI_side_10 : decode cI_side 10 = .ok (.iload_n 2, 1) := by decide +kernel
theorem dI_side_11 : decode cI_side 11 = .ok (.invokevirtual 74, 3) := by decide +kernel
theorem dI_side_14 : decode cI_side 14 = .ok (.iload 4, 2) := by decide +kernel
theorem dI_side_16 : decode cI_side 16 = .ok (.imul, 1) := by decide +kernel
theorem dI_side_17 : decode cI_side 17 = .ok (.isub, 1) := by decide +kernel
theorem dI_side_18 : decode cI_side 18 = .ok (.ireturn, 1) := by decide +kernel
theorem dI_boundByOne_0 : decode cI_boundByOne 0 = .ok (.aload_n 1, 1) := by decide +kernel
theorem dI_boundByOne_1 : decode cI_boundByOne 1 = .ok (.iload_n 2, 1) := by decide +kernel
theorem dI_boundByOne_2 : decode cI_boundByOne 2 = .ok (.iload_n 3, 1) := by decide +kernel
theorem dI_boundByOne_3 : decode cI_boundByOne 3 = .ok (.invokevirtual 74, 3) := by decide +kernel
theorem dI_boundByOne_6 : decode cI_boundByOne 6 = .ok (.i2l, 1) := by decide +kernel
theorem dI_boundByOne_7 : decode cI_boundByOne 7 = .ok (.iload 4, 2) := by decide +kernel
theorem dI_boundByOne_9 : decode cI_boundByOne 9 = .ok (.i2l, 1) := by decide +kernel
theorem dI_boundByOne_10 : decode cI_boundByOne 10 = .ok (.lmul, 1) := by decide +kernel
theorem dI_boundByOne_11 : decode cI_boundByOne 11 = .ok (.aload_n 1, 1) := by decide +kernel
theorem dI_boundByOne_12 : decode cI_boundByOne 12 = .ok (.iload_n 2, 1) := by decide +kernel
theorem dI_boundByOne_13 : decode cI_boundByOne 13 = .ok (.iload_n 3, 1) := by decide +kernel
theorem dI_boundByOne_14 : decode cI_boundByOne 14 = .ok (.invokevirtual 70, 3) := by decide +kernel
theorem dI_boundByOne_17 : decode cI_boundByOne 17 = .ok (.i2l, 1) := by decide +kernel
theorem dI_boundByOne_18 : decode cI_boundByOne 18 = .ok (.iload 5, 2) := by decide +kernel
theorem dI_boundByOne_20 : decode cI_boundByOne 20 = .ok (.i2l, 1) := by decide +kernel
theorem dI_boundByOne_21 : decode cI_boundByOne 21 = .ok (.lmul, 1) := by decide +kernel
theorem dI_boundByOne_22 : decode cI_boundByOne 22 = .ok (.ladd, 1) := by decide +kernel
theorem dI_boundByOne_23 : decode cI_boundByOne 23 = .ok (.lstore 6, 2) := by decide +kernel
theorem dI_boundByOne_25 : decode cI_boundByOne 25 = .ok (.lload 6, 2) := by decide +kernel
theorem dI_boundByOne_27 : decode cI_boundByOne 27 = .ok (.lconst 0, 1) := by decide +kernel
theorem dI_boundByOne_28 : decode cI_boundByOne 28 = .ok (.lcmp, 1) := by decide +kernel
theorem dI_boundByOne_29 : decode cI_boundByOne 29 = .ok (.ifCond .ge 52, 3) := by decide +kernel
theorem dI_boundByOne_32 : decode cI_boundByOne 32 = .ok (.iload 4, 2) := by decide +kernel
theorem dI_boundByOne_34 : decode cI_boundByOne 34 = .ok (.i2l, 1) := by decide +kernel
theorem dI_boundByOne_35 : decode cI_boundByOne 35 = .ok (.iload 4, 2) := by decide +kernel
theorem dI_boundByOne_37 : decode cI_boundByOne 37 = .ok (.i2l, 1) := by decide +kernel
theorem dI_boundByOne_38 : decode cI_boundByOne 38 = .ok (.lmul, 1) := by decide +kernel
theorem dI_boundByOne_39 : decode cI_boundByOne 39 = .ok (.iload 5, 2) := by decide +kernel
theorem dI_boundByOne_41 : decode cI_boundByOne 41 = .ok (.i2l, 1) := by decide +kernel
theorem dI_boundByOne_42 : decode cI_boundByOne 42 = .ok (.iload 5, 2) := by decide +kernel
theorem dI_boundByOne_44 : decode cI_boundByOne 44 = .ok (.i2l, 1) := by decide +kernel
theorem dI_boundByOne_45 : decode cI_boundByOne 45 = .ok (.lmul, 1) := by decide +kernel
theorem dI_boundByOne_46 : decode cI_boundByOne 46 = .ok (.ladd, 1) := by decide +kernel
theorem dI_boundByOne_47 : decode cI_boundByOne 47 = .ok (.lstore 8, 2) := by decide +kernel
theorem dI_boundByOne_49 : decode cI_boundByOne 49 = .ok (.aload_n 0, 1) := by decide +kernel
theorem dI_boundByOne_50 : decode cI_boundByOne 50 = .ok (.aload_n 1, 1) := by decide +kernel
theorem dI_boundByOne_51 : decode cI_boundByOne 51 = .ok (.iload_n 2, 1) := by decide +kernel
theorem dI_boundByOne_52 : decode cI_boundByOne 52 = .ok (.iload_n 3, 1) := by decide +kernel
theorem dI_boundByOne_53 : decode cI_boundByOne 53 = .ok (.invokevirtual 77, 3) := by decide +kernel
theorem dI_boundByOne_56 : decode cI_boundByOne 56 = .ok (.ineg, 1) := by decide +kernel
theorem dI_boundByOne_57 : decode cI_boundByOne 57 = .ok (.i2l, 1) := by decide +kernel
theorem dI_boundByOne_58 : decode cI_boundByOne 58 = .ok (.lload 8, 2) := by decide +kernel
theorem dI_boundByOne_60 : decode cI_boundByOne 60 = .ok (.lmul, 1) := by decide +kernel
theorem dI_boundByOne_61 : decode cI_boundByOne 61 = .ok (.lload 6, 2) := by decide +kernel
theorem dI_boundByOne_63 : decode cI_boundByOne 63 = .ok (.lneg, 1) := by decide +kernel
theorem dI_boundByOne_64 : decode cI_boundByOne 64 = .ok (.aload_n 1, 1) := by decide +kernel
theorem dI_boundByOne_65 : decode cI_boundByOne 65 = .ok (.iload_n 2, 1) := by decide +kernel
theorem dI_boundByOne_66 : decode cI_boundByOne 66 = .ok (.iload_n 3, 1) := by decide +kernel
theorem dI_boundByOne_67 : decode cI_boundByOne 67 = .ok (.invokevirtual 80, 3) := by decide +kernel
theorem dI_boundByOne_70 : decode cI_boundByOne 70 = .ok (.ifCond .ne 7, 3) := by decide +kernel
theorem dI_boundByOne_73 : decode cI_boundByOne 73 = .ok (.iconst 1, 1) := by decide +kernel
theorem dI_boundByOne_74 : decode cI_boundByOne 74 = .ok (.goto 4, 3) := by decide +kernel
theorem dI_boundByOne_77 : decode cI_boundByOne 77 = .ok (.iconst 0, 1) := by decide +kernel
theorem dI_boundByOne_78 : decode cI_boundByOne 78 = .ok (.invokevirtual 84, 3) := by decide +kernel
theorem dI_boundByOne_81 : decode cI_boundByOne 81 = .ok (.return_, 1) := by decide +kernel
theorem dI_boundByTwo_0 : decode cI_boundByTwo 0 = .ok (.aload_n 1, 1) := by decide +kernel
theorem dI_boundByTwo_1 : decode cI_boundByTwo 1 = .ok (.iload_n 2, 1) := by decide +kernel
theorem dI_boundByTwo_2 : decode cI_boundByTwo 2 = .ok (.iload_n 3, 1) := by decide +kernel
theorem dI_boundByTwo_3 : decode cI_boundByTwo 3 = .ok (.invokevirtual 74, 3) := by decide +kernel
theorem dI_boundByTwo_6 : decode cI_boundByTwo 6 = .ok (.i2l, 1) := by decide +kernel
theorem dI_boundByTwo_7 : decode cI_boundByTwo 7 = .ok (.lstore 7, 2) := by decide +kernel
theorem dI_boundByTwo_9 : decode cI_boundByTwo 9 = .ok (.aload_n 1, 1) := by decide +kernel
theorem dI_boundByTwo_10 : decode cI_boundByTwo 10 = .ok (.iload_n 2, 1) := by decide +kernel
theorem dI_boundByTwo_11 : decode cI_boundByTwo 11 = .ok (.iload_n 3, 1) := by decide +kernel
theorem dI_boundByTwo_12 : decode cI_boundByTwo 12 = .ok (.invokevirtual 70, 3) := by decide +kernel
theorem dI_boundByTwo_15 : decode cI_boundByTwo 15 = .ok (.i2l, 1) := by decide +kernel
theorem dI_boundByTwo_16 : decode cI_boundByTwo 16 = .ok (.lstore 9, 2) := by decide +kernel
theorem dI_boundByTwo_18 : decode cI_boundByTwo 18 = .ok (.aload_n 1, 1) := by decide +kernel
theorem dI_boundByTwo_19 : decode cI_boundByTwo 19 = .ok (.iload_n 2, 1) := by decide +kernel
theorem dI_boundByTwo_20 : decode cI_boundByTwo 20 = .ok (.iload_n 3, 1) := by decide +kernel
theorem dI_boundByTwo_21 : decode cI_boundByTwo 21 = .ok (.invokevirtual 77, 3) := by decide +kernel
theorem dI_boundByTwo_24 : decode cI_boundByTwo 24 = .ok (.i2l, 1) := by decide +kernel
theorem dI_boundByTwo_25 : decode cI_boundByTwo 25 = .ok (.lstore 11, 2) := by decide +kernel
theorem dI_boundByTwo_27 : decode cI_boundByTwo 27 = .ok (.lload 7, 2) := by decide +kernel
theorem dI_boundByTwo_29 : decode cI_boundByTwo 29 = .ok (.aload_n 1, 1) := by decide +kernel
theorem dI_boundByTwo_30 : decode cI_boundByTwo 30 = .ok (.iload_n 2, 1) := by decide +kernel
theorem dI_boundByTwo_31 : decode cI_boundByTwo 31 = .ok (.iload 4, 2) := by decide +kernel
theorem dI_boundByTwo_33 : decode cI_boundByTwo 33 = .ok (.invokevirtual 70, 3) := by decide +kernel
theorem dI_boundByTwo_36 : decode cI_boundByTwo 36 = .ok (.i2l, 1) := by decide +kernel
theorem dI_boundByTwo_37 : decode cI_boundByTwo 37 = .ok (.lmul, 1) := by decide +kernel
theorem dI_boundByTwo_38 : decode cI_boundByTwo 38 = .ok (.lload 9, 2) := by decide +kernel
theorem dI_boundByTwo_40 : decode cI_boundByTwo 40 = .ok (.aload_n 1, 1) := by decide +kernel
theorem dI_boundByTwo_41 : decode cI_boundByTwo 41 = .ok (.iload_n 2, 1) := by decide +kernel
theorem dI_boundByTwo_42 : decode cI_boundByTwo 42 = .ok (.iload 4, 2) := by decide +kernel
theorem dI_boundByTwo_44 : decode cI_boundByTwo 44 = .ok (.invokevirtual 74, 3) := by decide +kernel
theorem dI_boundByTwo_47 : decode cI_boundByTwo 47 = .ok (.i2l, 1) := by decide +kernel
theorem dI_boundByTwo_48 : decode cI_boundByTwo 48 = .ok (.lmul, 1) := by decide +kernel
theorem dI_boundByTwo_49 : decode cI_boundByTwo 49 = .ok (.lsub, 1) := by decide +kernel
theorem dI_boundByTwo_50 : decode cI_boundByTwo 50 = .ok (.lstore 13, 2) := by decide +kernel
theorem dI_boundByTwo_52 : decode cI_boundByTwo 52 = .ok (.lload 13, 2) := by decide +kernel
theorem dI_boundByTwo_54 : decode cI_boundByTwo 54 = .ok (.lconst 0, 1) := by decide +kernel
theorem dI_boundByTwo_55 : decode cI_boundByTwo 55 = .ok (.lcmp, 1) := by decide +kernel
theorem dI_boundByTwo_56 : decode cI_boundByTwo 56 = .ok (.ifCond .le 100, 3) := by decide +kernel
theorem dI_boundByTwo_59 : decode cI_boundByTwo 59 = .ok (.lload 11, 2) := by decide +kernel
theorem dI_boundByTwo_61 : decode cI_boundByTwo 61 = .ok (.aload_n 1, 1) := by decide +kernel
theorem dI_boundByTwo_62 : decode cI_boundByTwo 62 = .ok (.iload_n 2, 1) := by decide +kernel
theorem dI_boundByTwo_63 : decode cI_boundByTwo 63 = .ok (.iload 4, 2) := by decide +kernel
theorem dI_boundByTwo_65 : decode cI_boundByTwo 65 = .ok (.invokevirtual 70, 3) := by decide +kernel
theorem dI_boundByTwo_68 : decode cI_boundByTwo 68 = .ok (.i2l, 1) := by decide +kernel
theorem dI_boundByTwo_69 : decode cI_boundByTwo 69 = .ok (.lmul, 1) := by decide +kernel
theorem dI_boundByTwo_70 : decode cI_boundByTwo 70 = .ok (.lload 9, 2) := by decide +kernel
theorem dI_boundByTwo_72 : decode cI_boundByTwo 72 = .ok (.aload_n 1, 1) := by decide +kernel
theorem dI_boundByTwo_73 : decode cI_boundByTwo 73 = .ok (.iload_n 2, 1) := by decide +kernel
theorem dI_boundByTwo_74 : decode cI_boundByTwo 74 = .ok (.iload 4, 2) := by decide +kernel
theorem dI_boundByTwo_76 : decode cI_boundByTwo 76 = .ok (.invokevirtual 77, 3) := by decide +kernel
theorem dI_boundByTwo_79 : decode cI_boundByTwo 79 = .ok (.i2l, 1) := by decide +kernel
theorem dI_boundByTwo_80 : decode cI_boundByTwo 80 = .ok (.lmul, 1) := by decide +kernel
theorem dI_boundByTwo_81 : decode cI_boundByTwo 81 = .ok (.lsub, 1) := by decide +kernel
theorem dI_boundByTwo_82 : decode cI_boundByTwo 82 = .ok (.lstore 15, 2) := by decide +kernel
theorem dI_boundByTwo_84 : decode cI_boundByTwo 84 = .ok (.lload 7, 2) := by decide +kernel
theorem dI_boundByTwo_86 : decode cI_boundByTwo 86 = .ok (.aload_n 1, 1) := by decide +kernel
theorem dI_boundByTwo_87 : decode cI_boundByTwo 87 = .ok (.iload_n 2, 1) := by decide +kernel
theorem dI_boundByTwo_88 : decode cI_boundByTwo 88 = .ok (.iload 4, 2) := by decide +kernel
theorem dI_boundByTwo_90 : decode cI_boundByTwo 90 = .ok (.invokevirtual 77, 3) := by decide +kernel
theorem dI_boundByTwo_93 : decode cI_boundByTwo 93 = .ok (.i2l, 1) := by decide +kernel
theorem dI_boundByTwo_94 : decode cI_boundByTwo 94 = .ok (.lmul, 1) := by decide +kernel
theorem dI_boundByTwo_95 : decode cI_boundByTwo 95 = .ok (.lload 11, 2) := by decide +kernel
theorem dI_boundByTwo_97 : decode cI_boundByTwo 97 = .ok (.aload_n 1, 1) := by decide +kernel
theorem dI_boundByTwo_98 : decode cI_boundByTwo 98 = .ok (.iload_n 2, 1) := by decide +kernel
theorem dI_boundByTwo_99 : decode cI_boundByTwo 99 = .ok (.iload 4, 2) := by decide +kernel
theorem dI_boundByTwo_101 : decode cI_boundByTwo 101 = .ok (.invokevirtual 74, 3) := by decide +kernel
theorem dI_boundByTwo_104 : decode cI_boundByTwo 104 = .ok (.i2l, 1) := by decide +kernel
theorem dI_boundByTwo_105 : decode cI_boundByTwo 105 = .ok (.lmul, 1) := by decide +kernel
theorem dI_boundByTwo_106 : decode cI_boundByTwo 106 = .ok (.lsub, 1) := by decide +kernel
theorem dI_boundByTwo_107 : decode cI_boundByTwo 107 = .ok (.lstore 17, 2) := by decide +kernel
theorem dI_boundByTwo_109 : decode cI_boundByTwo 109 = .ok (.aload_n 1, 1) := by decide +kernel
theorem dI_boundByTwo_110 : decode cI_boundByTwo 110 = .ok (.iload_n 2, 1) := by decide +kernel
theorem dI_boundByTwo_111 : decode cI_boundByTwo 111 = .ok (.iload_n 3, 1) := by decide +kernel
theorem dI_boundByTwo_112 : decode cI_boundByTwo 112 = .ok (.invokevirtual 80, 3) := by decide +kernel
theorem dI_boundByTwo_115 : decode cI_boundByTwo 115 = .ok (.ifCond .ne 17, 3) := by decide +kernel
theorem dI_boundByTwo_118 : decode cI_boundByTwo 118 = .ok (.aload_n 1, 1) := by decide +kernel
theorem dI_boundByTwo_119 : decode cI_boundByTwo 119 = .ok (.iload_n 2, 1) := by decide +kernel
theorem dI_boundByTwo_120 : decode cI_boundByTwo 120 = .ok (.iload 4, 2) := by decide +kernel
theorem dI_boundByTwo_122 : decode cI_boundByTwo 122 = .ok (.invokevirtual 80, 3) := by decide +kernel
theorem dI_boundByTwo_125 : decode cI_boundByTwo 125 = .ok (.ifCond .ne 7, 3) := by decide +kernel
theorem dI_boundByTwo_128 : decode cI_boundByTwo 128 = .ok (.iconst 1, 1) := by decide +kernel
theorem dI_boundByTwo_129 : decode cI_boundByTwo 129 = .ok (.goto 4, 3) := by decide +kernel
theorem dI_boundByTwo_132 : decode cI_boundByTwo 132 = .ok (.iconst 0, 1) := by decide +kernel
theorem dI_boundByTwo_133 : decode cI_boundByTwo 133 = .ok (.istore 19, 2) := by decide +kernel
theorem dI_boundByTwo_135 : decode cI_boundByTwo 135 = .ok (.aload_n 0, 1) := by decide +kernel
theorem dI_boundByTwo_136 : decode cI_boundByTwo 136 = .ok (.iload 5, 2) := by decide +kernel
theorem dI_boundByTwo_138 : decode cI_boundByTwo 138 = .ok (.i2l, 1) := by decide +kernel
theorem dI_boundByTwo_139 : decode cI_boundByTwo 139 = .ok (.lload 15, 2) := by decide +kernel
theorem dI_boundByTwo_141 : decode cI_boundByTwo 141 = .ok (.lmul, 1) := by decide +kernel
theorem dI_boundByTwo_142 : decode cI_boundByTwo 142 = .ok (.iload 6, 2) := by decide +kernel
theorem dI_boundByTwo_144 : decode cI_boundByTwo 144 = .ok (.i2l, 1) := by decide +kernel
theorem dI_boundByTwo_145 : decode cI_boundByTwo 145 = .ok (.lload 17, 2) := by decide +kernel
theorem dI_boundByTwo_147 : decode cI_boundByTwo 147 = .ok (.lmul, 1) := by decide +kernel
theorem dI_boundByTwo_148 : decode cI_boundByTwo 148 = .ok (.ladd, 1) := by decide +kernel
theorem dI_boundByTwo_149 : decode cI_boundByTwo 149 = .ok (.lload 13, 2) := by decide +kernel
theorem dI_boundByTwo_151 : decode cI_boundByTwo 151 = .ok (.iload 19, 2) := by decide +kernel
theorem dI_boundByTwo_153 : decode cI_boundByTwo 153 = .ok (.invokevirtual 84, 3) := by decide +kernel
theorem dI_boundByTwo_156 : decode cI_boundByTwo 156 = .ok (.return_, 1) := by decide +kernel
theorem dI_raiseRow_0 : decode cI_raiseRow 0 = .ok (.lload_n 1, 1) := by decide +kernel
theorem dI_raiseRow_1 : decode cI_raiseRow 1 = .ok (.aload_n 0, 1) := by decide +kernel
theorem dI_raiseRow_2 : decode cI_raiseRow 2 = .ok (.getfield 31, 3) := by decide +kernel
theorem dI_raiseRow_5 : decode cI_raiseRow 5 = .ok (.lmul, 1) := by decide +kernel
theorem dI_raiseRow_6 : decode cI_raiseRow 6 = .ok (.lstore 6, 2) := by decide +kernel
theorem dI_raiseRow_8 : decode cI_raiseRow 8 = .ok (.aload_n 0, 1) := by decide +kernel
theorem dI_raiseRow_9 : decode cI_raiseRow 9 = .ok (.getfield 44, 3) := by decide +kernel
theorem dI_raiseRow_12 : decode cI_raiseRow 12 = .ok (.lload_n 3, 1) := by decide +kernel
theorem dI_raiseRow_13 : decode cI_raiseRow 13 = .ok (.lmul, 1) := by decide +kernel
theorem dI_raiseRow_14 : decode cI_raiseRow 14 = .ok (.lstore 8, 2) := by decide +kernel
theorem dI_raiseRow_16 : decode cI_raiseRow 16 = .ok (.aload_n 0, 1) := by decide +kernel
theorem dI_raiseRow_17 : decode cI_raiseRow 17 = .ok (.getfield 31, 3) := by decide +kernel
theorem dI_raiseRow_20 : decode cI_raiseRow 20 = .ok (.lconst 0, 1) := by decide +kernel
theorem dI_raiseRow_21 : decode cI_raiseRow 21 = .ok (.lcmp, 1) := by decide +kernel
theorem dI_raiseRow_22 : decode cI_raiseRow 22 = .ok (.ifCond .eq 11, 3) := by decide +kernel
theorem dI_raiseRow_25 : decode cI_raiseRow 25 = .ok (.lload 6, 2) := by decide +kernel
theorem dI_raiseRow_27 : decode cI_raiseRow 27 = .ok (.lload 8, 2) := by decide +kernel
theorem dI_raiseRow_29 : decode cI_raiseRow 29 = .ok (.lcmp, 1) := by decide +kernel
theorem dI_raiseRow_30 : decode cI_raiseRow 30 = .ok (.ifCond .le 22, 3) := by decide +kernel
theorem dI_raiseRow_33 : decode cI_raiseRow 33 = .ok (.aload_n 0, 1) := by decide +kernel
theorem dI_raiseRow_34 : decode cI_raiseRow 34 = .ok (.lload_n 1, 1) := by decide +kernel
theorem dI_raiseRow_35 : decode cI_raiseRow 35 = .ok (.putfield 44, 3) := by decide +kernel
theorem dI_raiseRow_38 : decode cI_raiseRow 38 = .ok (.aload_n 0, 1) := by decide +kernel
theorem dI_raiseRow_39 : decode cI_raiseRow 39 = .ok (.lload_n 3, 1) := by decide +kernel
theorem dI_raiseRow_40 : decode cI_raiseRow 40 = .ok (.putfield 31, 3) := by decide +kernel
theorem dI_raiseRow_43 : decode cI_raiseRow 43 = .ok (.aload_n 0, 1) := by decide +kernel
theorem dI_raiseRow_44 : decode cI_raiseRow 44 = .ok (.iload 5, 2) := by decide +kernel
theorem dI_raiseRow_46 : decode cI_raiseRow 46 = .ok (.putfield 47, 3) := by decide +kernel
theorem dI_raiseRow_49 : decode cI_raiseRow 49 = .ok (.goto 21, 3) := by decide +kernel
theorem dI_raiseRow_52 : decode cI_raiseRow 52 = .ok (.lload 6, 2) := by decide +kernel
theorem dI_raiseRow_54 : decode cI_raiseRow 54 = .ok (.lload 8, 2) := by decide +kernel
theorem dI_raiseRow_56 : decode cI_raiseRow 56 = .ok (.lcmp, 1) := by decide +kernel
theorem dI_raiseRow_57 : decode cI_raiseRow 57 = .ok (.ifCond .ne 13, 3) := by decide +kernel
theorem dI_raiseRow_60 : decode cI_raiseRow 60 = .ok (.iload 5, 2) := by decide +kernel
theorem dI_raiseRow_62 : decode cI_raiseRow 62 = .ok (.ifCond .ne 8, 3) := by decide +kernel
theorem dI_raiseRow_65 : decode cI_raiseRow 65 = .ok (.aload_n 0, 1) := by decide +kernel
theorem dI_raiseRow_66 : decode cI_raiseRow 66 = .ok (.iconst 0, 1) := by decide +kernel
theorem dI_raiseRow_67 : decode cI_raiseRow 67 = .ok (.putfield 47, 3) := by decide +kernel
theorem dI_raiseRow_70 : decode cI_raiseRow 70 = .ok (.return_, 1) := by decide +kernel
